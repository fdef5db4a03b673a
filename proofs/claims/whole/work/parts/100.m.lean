theorem dX8_copyFrom_0 : decode cX8_copyFrom 0 = .ok (.aload_n 0, 1) := by decide +kernel
theorem dX8_copyFrom_1 : decode cX8_copyFrom 1 = .ok (.aload_n 1, 1) := by decide +kernel
theorem dX8_copyFrom_2 : decode cX8_copyFrom 2 = .ok (.getfield 9, 3) := by decide +kernel
theorem dX8_copyFrom_5 : decode cX8_copyFrom 5 = .ok (.putfield 9, 3) := by decide +kernel
theorem dX8_copyFrom_8 : decode cX8_copyFrom 8 = .ok (.aload_n 1, 1) := by decide +kernel
theorem dX8_copyFrom_9 : decode cX8_copyFrom 9 = .ok (.getfield 15, 3) := by decide +kernel
theorem dX8_copyFrom_12 : decode cX8_copyFrom 12 = .ok (.iconst 0, 1) := by decide +kernel
theorem dX8_copyFrom_13 : decode cX8_copyFrom 13 = .ok (.aload_n 0, 1) := by decide +kernel
theorem dX8_copyFrom_14 : decode cX8_copyFrom 14 = .ok (.getfield 15, 3) := by decide +kernel
theorem dX8_copyFrom_17 : decode cX8_copyFrom 17 = .ok (.iconst 0, 1) := by decide +kernel
theorem dX8_copyFrom_18 : decode cX8_copyFrom 18 = .ok (.bipush 6, 2) := by decide +kernel
theorem dX8_copyFrom_20 : decode cX8_copyFrom 20 = .ok (.invokestatic 25, 3) := by decide +kernel
theorem dX8_copyFrom_23 : decode cX8_copyFrom 23 = .ok (.aload_n 1, 1) := by decide +kernel
theorem dX8_copyFrom_24 : decode cX8_copyFrom 24 = .ok (.getfield 19, 3) := by decide +kernel
theorem dX8_copyFrom_27 : decode cX8_copyFrom 27 = .ok (.iconst 0, 1) := by decide +kernel
theorem dX8_copyFrom_28 : decode cX8_copyFrom 28 = .ok (.aload_n 0, 1) := by decide +kernel
theorem dX8_copyFrom_29 : decode cX8_copyFrom 29 = .ok (.getfield 19, 3) := by decide +kernel
theorem dX8_copyFrom_32 : decode cX8_copyFrom 32 = .ok (.iconst 0, 1) := by decide +kernel
theorem dX8_copyFrom_33 : decode cX8_copyFrom 33 = .ok (.bipush 6, 2) := by decide +kernel
theorem dX8_copyFrom_35 : decode cX8_copyFrom 35 = .ok (.invokestatic 25, 3) := by decide +kernel
theorem dX8_copyFrom_38 : decode cX8_copyFrom 38 = .ok (.aload_n 1, 1) := by decide +kernel
theorem dX8_copyFrom_39 : decode cX8_copyFrom 39 = .ok (.getfield 22, 3) := by decide +kernel
theorem dX8_copyFrom_42 : decode cX8_copyFrom 42 = .ok (.iconst 0, 1) := by decide +kernel
theorem dX8_copyFrom_43 : decode cX8_copyFrom 43 = .ok (.aload_n 0, 1) := by decide +kernel
theorem dX8_copyFrom_44 : decode cX8_copyFrom 44 = .ok (.getfield 22, 3) := by decide +kernel
theorem dX8_copyFrom_47 : decode cX8_copyFrom 47 = .ok (.iconst 0, 1) := by decide +kernel
theorem dX8_copyFrom_48 : decode cX8_copyFrom 48 = .ok (.bipush 6, 2) := by decide +kernel
theorem dX8_copyFrom_50 : decode cX8_copyFrom 50 = .ok (.invokestatic 25, 3) := by decide +kernel
theorem dX8_copyFrom_53 : decode cX8_copyFrom 53 = .ok (.return_, 1) := by decide +kernel
set_option maxRecDepth 100000 in
def F_X8_copyFrom_b0 (v0 : Nat) (v1 : Nat) (h : Hp) : Option (Unit × Hp) :=
  gd (decide (kd h v1 = 7)) <| gd (decide (kd h v0 = 7)) <| ob (zR (setI h v0 0 (zI h v1 0)) v1 1) fun q3 => ob (zR (setI h v0 0 (zI h v1 0)) v0 1) fun q5 => gd (decide (kd (setI h v0 0 (zI h v1 0)) q3 = 13)) <| gd (decide (kd (setI h v0 0 (zI h v1 0)) q5 = 13)) <| gd (cpk (0 : Int32) (0 : Int32) (6 : Int32) (zl (setI h v0 0 (zI h v1 0)) q3) (zl (setI h v0 0 (zI h v1 0)) q5)) <| ob (zR (cpA (setI h v0 0 (zI h v1 0)) q3 (0 : Int32) q5 (0 : Int32) (6 : Int32)) v1 2) fun q10 => ob (zR (cpA (setI h v0 0 (zI h v1 0)) q3 (0 : Int32) q5 (0 : Int32) (6 : Int32)) v0 2) fun q12 => gd (decide (kd (cpA (setI h v0 0 (zI h v1 0)) q3 (0 : Int32) q5 (0 : Int32) (6 : Int32)) q10 = 13)) <| gd (decide (kd (cpA (setI h v0 0 (zI h v1 0)) q3 (0 : Int32) q5 (0 : Int32) (6 : Int32)) q12 = 13)) <| gd (cpk (0 : Int32) (0 : Int32) (6 : Int32) (zl (cpA (setI h v0 0 (zI h v1 0)) q3 (0 : Int32) q5 (0 : Int32) (6 : Int32)) q10) (zl (cpA (setI h v0 0 (zI h v1 0)) q3 (0 : Int32) q5 (0 : Int32) (6 : Int32)) q12)) <| ob (zR (cpA (cpA (setI h v0 0 (zI h v1 0)) q3 (0 : Int32) q5 (0 : Int32) (6 : Int32)) q10 (0 : Int32) q12 (0 : Int32) (6 : Int32)) v1 3) fun q17 => ob (zR (cpA (cpA (setI h v0 0 (zI h v1 0)) q3 (0 : Int32) q5 (0 : Int32) (6 : Int32)) q10 (0 : Int32) q12 (0 : Int32) (6 : Int32)) v0 3) fun q19 => gd (decide (kd (cpA (cpA (setI h v0 0 (zI h v1 0)) q3 (0 : Int32) q5 (0 : Int32) (6 : Int32)) q10 (0 : Int32) q12 (0 : Int32) (6 : Int32)) q17 = 13)) <| gd (decide (kd (cpA (cpA (setI h v0 0 (zI h v1 0)) q3 (0 : Int32) q5 (0 : Int32) (6 : Int32)) q10 (0 : Int32) q12 (0 : Int32) (6 : Int32)) q19 = 13)) <| gd (cpk (0 : Int32) (0 : Int32) (6 : Int32) (zl (cpA (cpA (setI h v0 0 (zI h v1 0)) q3 (0 : Int32) q5 (0 : Int32) (6 : Int32)) q10 (0 : Int32) q12 (0 : Int32) (6 : Int32)) q17) (zl (cpA (cpA (setI h v0 0 (zI h v1 0)) q3 (0 : Int32) q5 (0 : Int32) (6 : Int32)) q10 (0 : Int32) q12 (0 : Int32) (6 : Int32)) q19)) <| some ((), cpA (cpA (cpA (setI h v0 0 (zI h v1 0)) q3 (0 : Int32) q5 (0 : Int32) (6 : Int32)) q10 (0 : Int32) q12 (0 : Int32) (6 : Int32)) q17 (0 : Int32) q19 (0 : Int32) (6 : Int32))
set_option maxHeartbeats 4000000 in
set_option maxRecDepth 100000 in
theorem r_X8_copyFrom_b0 (v0 : Nat) (v1 : Nat) (h : Hp) {x : Cx} {r : Unit} {hz : Hp} (e : F_X8_copyFrom_b0 v0 v1 h = some (r, hz)) (hF : Fin9 M_X8_copyFrom x none none hz) : V M_X8_copyFrom x 1 0 [(0, .ref v0), (1, .ref v1)] [] h 0 0 := by
  unfold F_X8_copyFrom_b0 at e
  refine V_aload_n (pc := 0) (i := 0) dX8_copyFrom_0 rfl rfl ?_
  refine V_aload_n (pc := 1) (i := 1) dX8_copyFrom_1 rfl rfl ?_
  obtain ⟨g1, e⟩ := gd_some e
  refine V_getI (pc := 2) (ci := 7) (k := 0) dX8_copyFrom_2 fl_X8_9 rfl (of_decide_eq_true g1) ?_
  obtain ⟨g2, e⟩ := gd_some e
  refine V_putI (pc := 5) (ci := 7) (k := 0) dX8_copyFrom_5 fp_X8_9 rfl (of_decide_eq_true g2) ?_
  refine V_aload_n (pc := 8) (i := 1) dX8_copyFrom_8 rfl rfl ?_
  obtain ⟨q3, g4, e⟩ := ob_some e
  refine V_getR (pc := 9) (ci := 7) (k := 1) (b := q3) dX8_copyFrom_9 fl_X8_15 rfl (of_decide_eq_true g1) g4 ?_
  refine V_iconst (pc := 12) (v := (0 : Int32)) dX8_copyFrom_12 (by decide) ?_
  refine V_aload_n (pc := 13) (i := 0) dX8_copyFrom_13 rfl rfl ?_
  obtain ⟨q5, g6, e⟩ := ob_some e
  refine V_getR (pc := 14) (ci := 7) (k := 1) (b := q5) dX8_copyFrom_14 fl_X8_15 rfl (of_decide_eq_true g2) g6 ?_
  refine V_iconst (pc := 17) (v := (0 : Int32)) dX8_copyFrom_17 (by decide) ?_
  refine V_bipush (pc := 18) (v := (6 : Int32)) dX8_copyFrom_18 (by decide) ?_
  obtain ⟨g7, e⟩ := gd_some e
  obtain ⟨g8, e⟩ := gd_some e
  obtain ⟨g9, e⟩ := gd_some e
  refine V_copy (pc := 20) dX8_copyFrom_20 wm_X8_25 (of_decide_eq_true g7) (of_decide_eq_true g8) g9 (by decide) (Nat.le_of_ble_eq_true rfl) ?_
  refine V_aload_n (pc := 23) (i := 1) dX8_copyFrom_23 rfl rfl ?_
  obtain ⟨q10, g11, e⟩ := ob_some e
  refine V_getR (pc := 24) (ci := 7) (k := 2) (b := q10) dX8_copyFrom_24 fl_X8_19 rfl (of_decide_eq_true g1) g11 ?_
  refine V_iconst (pc := 27) (v := (0 : Int32)) dX8_copyFrom_27 (by decide) ?_
  refine V_aload_n (pc := 28) (i := 0) dX8_copyFrom_28 rfl rfl ?_
  obtain ⟨q12, g13, e⟩ := ob_some e
  refine V_getR (pc := 29) (ci := 7) (k := 2) (b := q12) dX8_copyFrom_29 fl_X8_19 rfl (of_decide_eq_true g2) g13 ?_
  refine V_iconst (pc := 32) (v := (0 : Int32)) dX8_copyFrom_32 (by decide) ?_
  refine V_bipush (pc := 33) (v := (6 : Int32)) dX8_copyFrom_33 (by decide) ?_
  obtain ⟨g14, e⟩ := gd_some e
  obtain ⟨g15, e⟩ := gd_some e
  obtain ⟨g16, e⟩ := gd_some e
  refine V_copy (pc := 35) dX8_copyFrom_35 wm_X8_25 (of_decide_eq_true g14) (of_decide_eq_true g15) g16 (by decide) (Nat.le_of_ble_eq_true rfl) ?_
  refine V_aload_n (pc := 38) (i := 1) dX8_copyFrom_38 rfl rfl ?_
  obtain ⟨q17, g18, e⟩ := ob_some e
  refine V_getR (pc := 39) (ci := 7) (k := 3) (b := q17) dX8_copyFrom_39 fl_X8_22 rfl (of_decide_eq_true g1) g18 ?_
  refine V_iconst (pc := 42) (v := (0 : Int32)) dX8_copyFrom_42 (by decide) ?_
  refine V_aload_n (pc := 43) (i := 0) dX8_copyFrom_43 rfl rfl ?_
  obtain ⟨q19, g20, e⟩ := ob_some e
  refine V_getR (pc := 44) (ci := 7) (k := 3) (b := q19) dX8_copyFrom_44 fl_X8_22 rfl (of_decide_eq_true g2) g20 ?_
  refine V_iconst (pc := 47) (v := (0 : Int32)) dX8_copyFrom_47 (by decide) ?_
  refine V_bipush (pc := 48) (v := (6 : Int32)) dX8_copyFrom_48 (by decide) ?_
  obtain ⟨g21, e⟩ := gd_some e
  obtain ⟨g22, e⟩ := gd_some e
  obtain ⟨g23, e⟩ := gd_some e
  refine V_copy (pc := 50) dX8_copyFrom_50 wm_X8_25 (of_decide_eq_true g21) (of_decide_eq_true g22) g23 (by decide) (Nat.le_of_ble_eq_true rfl) ?_
  cases e
  exact V_vret (pc := 53) dX8_copyFrom_53 hF
def F_X8_copyFrom (v0 : Nat) (v1 : Nat) (h : Hp) : Option (Unit × Hp) := F_X8_copyFrom_b0 v0 v1 h
theorem c_X8_copyFrom {l : Launch} (v0 : Nat) (v1 : Nat) (h : Hp) {r : Unit} {hz : Hp} (e : F_X8_copyFrom v0 v1 h = some (r, hz)) : Ct l yX8_copyFrom M_X8_copyFrom none 1 [.ref v0, .ref v1] h 0 0 none hz :=
  Ct_of rfl rfl (fun q => by cases q) (Nat.le_of_ble_eq_true rfl) (fun x _ hF => V_pick [0, 1] rfl (r_X8_copyFrom_b0 v0 v1 h e hF))
theorem dX8_add_0 : decode cX8_add 0 = .ok (.aload_n 0, 1) := by decide +kernel
theorem dX8_add_1 : decode cX8_add 1 = .ok (.getfield 9, 3) := by decide +kernel
theorem dX8_add_4 : decode cX8_add 4 = .ok (.bipush 6, 2) := by decide +kernel
theorem dX8_add_6 : decode cX8_add 6 = .ok (.if_icmp .ge 43, 3) := by decide +kernel
theorem dX8_add_9 : decode cX8_add 9 = .ok (.aload_n 0, 1) := by decide +kernel
theorem dX8_add_10 : decode cX8_add 10 = .ok (.getfield 15, 3) := by decide +kernel
theorem dX8_add_13 : decode cX8_add 13 = .ok (.aload_n 0, 1) := by decide +kernel
theorem dX8_add_14 : decode cX8_add 14 = .ok (.getfield 9, 3) := by decide +kernel
theorem dX8_add_17 : decode cX8_add 17 = .ok (.iload_n 1, 1) := by decide +kernel
theorem dX8_add_18 : decode cX8_add 18 = .ok (.iastore, 1) := by decide +kernel
theorem dX8_add_19 : decode cX8_add 19 = .ok (.aload_n 0, 1) := by decide +kernel
theorem dX8_add_20 : decode cX8_add 20 = .ok (.getfield 19, 3) := by decide +kernel
theorem dX8_add_23 : decode cX8_add 23 = .ok (.aload_n 0, 1) := by decide +kernel
theorem dX8_add_24 : decode cX8_add 24 = .ok (.getfield 9, 3) := by decide +kernel
theorem dX8_add_27 : decode cX8_add 27 = .ok (.iload_n 2, 1) := by decide +kernel
theorem dX8_add_28 : decode cX8_add 28 = .ok (.iastore, 1) := by decide +kernel
theorem dX8_add_29 : decode cX8_add 29 = .ok (.aload_n 0, 1) := by decide +kernel
theorem dX8_add_30 : decode cX8_add 30 = .ok (.getfield 22, 3) := by decide +kernel
theorem dX8_add_33 : decode cX8_add 33 = .ok (.aload_n 0, 1) := by decide +kernel
theorem dX8_add_34 : decode cX8_add 34 = .ok (.getfield 9, 3) := by decide +kernel
theorem dX8_add_37 : decode cX8_add 37 = .ok (.iload_n 3, 1) := by decide +kernel
theorem dX8_add_38 : decode cX8_add 38 = .ok (.iastore, 1) := by decide +kernel
theorem dX8_add_39 : decode cX8_add 39 = .ok (.aload_n 0, 1) := by decide +kernel
theorem dX8_add_40 : decode cX8_add 40 = .ok (.dup, 1) := by decide +kernel
theorem dX8_add_41 : decode cX8_add 41 = .ok (.getfield 9, 3) := by decide +kernel
theorem dX8_add_44 : decode cX8_add 44 = .ok (.iconst 1, 1) := by decide +kernel
theorem dX8_add_45 : decode cX8_add 45 = .ok (.iadd, 1) := by decide +kernel
theorem dX8_add_46 : decode cX8_add 46 = .ok (.putfield 9, 3) := by decide +kernel
theorem dX8_add_49 : decode cX8_add 49 = .ok (.return_, 1) := by decide +kernel
set_option maxRecDepth 100000 in
def F_X8_add_b49  (h : Hp) : Option (Unit × Hp) :=
  some ((), h)
set_option maxHeartbeats 4000000 in
set_option maxRecDepth 100000 in
theorem r_X8_add_b49  (h : Hp) {x : Cx} {r : Unit} {hz : Hp} (e : F_X8_add_b49  h = some (r, hz)) (hF : Fin9 M_X8_add x none none hz) : V M_X8_add x 0 49 [] [] h 0 0 := by
  unfold F_X8_add_b49 at e
  cases e
  exact V_vret (pc := 49) dX8_add_49 hF
set_option maxRecDepth 100000 in
def F_X8_add_b0 (v0 : Nat) (v1 : Int32) (v2 : Int32) (v3 : Int32) (h : Hp) : Option (Unit × Hp) :=
  gd (decide (kd h v0 = 7)) <| (if (6 : Int32) ≤ (zI h v0 0) then F_X8_add_b49 h else ob (zR h v0 1) fun q2 => gd (decide (kd h q2 = 13)) <| gd (ix (zI h v0 0) (zl h q2)) <| ob (zR (setI h q2 (zI h v0 0).toNatClampNeg v1) v0 2) fun q6 => gd (decide (kd (setI h q2 (zI h v0 0).toNatClampNeg v1) q6 = 13)) <| gd (ix (zI (setI h q2 (zI h v0 0).toNatClampNeg v1) v0 0) (zl (setI h q2 (zI h v0 0).toNatClampNeg v1) q6)) <| ob (zR (setI (setI h q2 (zI h v0 0).toNatClampNeg v1) q6 (zI (setI h q2 (zI h v0 0).toNatClampNeg v1) v0 0).toNatClampNeg v2) v0 3) fun q10 => gd (decide (kd (setI (setI h q2 (zI h v0 0).toNatClampNeg v1) q6 (zI (setI h q2 (zI h v0 0).toNatClampNeg v1) v0 0).toNatClampNeg v2) q10 = 13)) <| gd (ix (zI (setI (setI h q2 (zI h v0 0).toNatClampNeg v1) q6 (zI (setI h q2 (zI h v0 0).toNatClampNeg v1) v0 0).toNatClampNeg v2) v0 0) (zl (setI (setI h q2 (zI h v0 0).toNatClampNeg v1) q6 (zI (setI h q2 (zI h v0 0).toNatClampNeg v1) v0 0).toNatClampNeg v2) q10)) <| F_X8_add_b49 (setI (setI (setI (setI h q2 (zI h v0 0).toNatClampNeg v1) q6 (zI (setI h q2 (zI h v0 0).toNatClampNeg v1) v0 0).toNatClampNeg v2) q10 (zI (setI (setI h q2 (zI h v0 0).toNatClampNeg v1) q6 (zI (setI h q2 (zI h v0 0).toNatClampNeg v1) v0 0).toNatClampNeg v2) v0 0).toNatClampNeg v3) v0 0 ((zI (setI (setI (setI h q2 (zI h v0 0).toNatClampNeg v1) q6 (zI (setI h q2 (zI h v0 0).toNatClampNeg v1) v0 0).toNatClampNeg v2) q10 (zI (setI (setI h q2 (zI h v0 0).toNatClampNeg v1) q6 (zI (setI h q2 (zI h v0 0).toNatClampNeg v1) v0 0).toNatClampNeg v2) v0 0).toNatClampNeg v3) v0 0) + (1 : Int32))))
set_option maxHeartbeats 4000000 in
set_option maxRecDepth 100000 in
theorem r_X8_add_b0 (v0 : Nat) (v1 : Int32) (v2 : Int32) (v3 : Int32) (h : Hp) {x : Cx} {r : Unit} {hz : Hp} (e : F_X8_add_b0 v0 v1 v2 v3 h = some (r, hz)) (hF : Fin9 M_X8_add x none none hz) : V M_X8_add x 0 0 [(0, .ref v0), (1, .int v1), (2, .int v2), (3, .int v3)] [] h 0 0 := by
  unfold F_X8_add_b0 at e
  refine V_aload_n (pc := 0) (i := 0) dX8_add_0 rfl rfl ?_
  obtain ⟨g1, e⟩ := gd_some e
  refine V_getI (pc := 1) (ci := 7) (k := 0) dX8_add_1 fl_X8_9 rfl (of_decide_eq_true g1) ?_
  refine V_bipush (pc := 4) (v := (6 : Int32)) dX8_add_4 (by decide) ?_
  refine V_icmp_ge (pc := 6) (tgt := 49) dX8_add_6 (by decide) (fun c14 => ?_) (fun c14 => ?_)
  · rw [if_pos c14] at e
    exact V_pick [] rfl (r_X8_add_b49 h e hF)
  · rw [if_neg c14] at e
    refine V_pick [0, 1, 2, 3] rfl ?_
    refine V_aload_n (pc := 9) (i := 0) dX8_add_9 rfl rfl ?_
    obtain ⟨q2, g3, e⟩ := ob_some e
    refine V_getR (pc := 10) (ci := 7) (k := 1) (b := q2) dX8_add_10 fl_X8_15 rfl (of_decide_eq_true g1) g3 ?_
    refine V_aload_n (pc := 13) (i := 0) dX8_add_13 rfl rfl ?_
    refine V_getI (pc := 14) (ci := 7) (k := 0) dX8_add_14 fl_X8_9 rfl (of_decide_eq_true g1) ?_
    refine V_iload_n (pc := 17) (i := 1) dX8_add_17 rfl rfl ?_
    obtain ⟨g4, e⟩ := gd_some e
    obtain ⟨g5, e⟩ := gd_some e
    refine V_iast (pc := 18) dX8_add_18 (of_decide_eq_true g4) (ix_in g5) ?_
    refine V_aload_n (pc := 19) (i := 0) dX8_add_19 rfl rfl ?_
    obtain ⟨q6, g7, e⟩ := ob_some e
    refine V_getR (pc := 20) (ci := 7) (k := 2) (b := q6) dX8_add_20 fl_X8_19 rfl (of_decide_eq_true g1) g7 ?_
    refine V_aload_n (pc := 23) (i := 0) dX8_add_23 rfl rfl ?_
    refine V_getI (pc := 24) (ci := 7) (k := 0) dX8_add_24 fl_X8_9 rfl (of_decide_eq_true g1) ?_
    refine V_iload_n (pc := 27) (i := 2) dX8_add_27 rfl rfl ?_
    obtain ⟨g8, e⟩ := gd_some e
    obtain ⟨g9, e⟩ := gd_some e
    refine V_iast (pc := 28) dX8_add_28 (of_decide_eq_true g8) (ix_in g9) ?_
    refine V_aload_n (pc := 29) (i := 0) dX8_add_29 rfl rfl ?_
    obtain ⟨q10, g11, e⟩ := ob_some e
    refine V_getR (pc := 30) (ci := 7) (k := 3) (b := q10) dX8_add_30 fl_X8_22 rfl (of_decide_eq_true g1) g11 ?_
    refine V_aload_n (pc := 33) (i := 0) dX8_add_33 rfl rfl ?_
    refine V_getI (pc := 34) (ci := 7) (k := 0) dX8_add_34 fl_X8_9 rfl (of_decide_eq_true g1) ?_
    refine V_iload_n (pc := 37) (i := 3) dX8_add_37 rfl rfl ?_
    obtain ⟨g12, e⟩ := gd_some e
    obtain ⟨g13, e⟩ := gd_some e
    refine V_iast (pc := 38) dX8_add_38 (of_decide_eq_true g12) (ix_in g13) ?_
    refine V_aload_n (pc := 39) (i := 0) dX8_add_39 rfl rfl ?_
    refine V_dup (pc := 40) dX8_add_40 rfl ?_
    refine V_getI (pc := 41) (ci := 7) (k := 0) dX8_add_41 fl_X8_9 rfl (of_decide_eq_true g1) ?_
    refine V_iconst (pc := 44) (v := (1 : Int32)) dX8_add_44 (by decide) ?_
    refine V_iadd (pc := 45) dX8_add_45 ?_
    refine V_putI (pc := 46) (ci := 7) (k := 0) dX8_add_46 fp_X8_9 rfl (of_decide_eq_true g1) ?_
    exact V_pick [] rfl (r_X8_add_b49 (setI (setI (setI (setI h q2 (zI h v0 0).toNatClampNeg v1) q6 (zI (setI h q2 (zI h v0 0).toNatClampNeg v1) v0 0).toNatClampNeg v2) q10 (zI (setI (setI h q2 (zI h v0 0).toNatClampNeg v1) q6 (zI (setI h q2 (zI h v0 0).toNatClampNeg v1) v0 0).toNatClampNeg v2) v0 0).toNatClampNeg v3) v0 0 ((zI (setI (setI (setI h q2 (zI h v0 0).toNatClampNeg v1) q6 (zI (setI h q2 (zI h v0 0).toNatClampNeg v1) v0 0).toNatClampNeg v2) q10 (zI (setI (setI h q2 (zI h v0 0).toNatClampNeg v1) q6 (zI (setI h q2 (zI h v0 0).toNatClampNeg v1) v0 0).toNatClampNeg v2) v0 0).toNatClampNeg v3) v0 0) + (1 : Int32))) e hF)
def F_X8_add (v0 : Nat) (v1 : Int32) (v2 : Int32) (v3 : Int32) (h : Hp) : Option (Unit × Hp) := F_X8_add_b0 v0 v1 v2 v3 h
theorem c_X8_add {l : Launch} (v0 : Nat) (v1 : Int32) (v2 : Int32) (v3 : Int32) (h : Hp) {r : Unit} {hz : Hp} (e : F_X8_add v0 v1 v2 v3 h = some (r, hz)) : Ct l yX8_add M_X8_add none 0 [.ref v0, .int v1, .int v2, .int v3] h 0 0 none hz :=
  Ct_of rfl rfl (fun q => by cases q) (Nat.le_of_ble_eq_true rfl) (fun x _ hF => V_pick [0, 1, 2, 3] rfl (r_X8_add_b0 v0 v1 v2 v3 h e hF))
theorem dX8_has_0 : decode cX8_has 0 = .ok (.iload_n 1, 1) := by decide +kernel
theorem dX8_has_1 : decode cX8_has 1 = .ok (.ifCond .lt 15, 3) := by decide +kernel
theorem dX8_has_4 : decode cX8_has 4 = .ok (.iload_n 1, 1) := by decide +kernel
theorem dX8_has_5 : decode cX8_has 5 = .ok (.aload_n 0, 1) := by decide +kernel
theorem dX8_has_6 : decode cX8_has 6 = .ok (.getfield 9, 3) := by decide +kernel
theorem dX8_has_9 : decode cX8_has 9 = .ok (.if_icmp .ge 7, 3) := by decide +kernel
theorem dX8_has_12 : decode cX8_has 12 = .ok (.iconst 1, 1) := by decide +kernel
theorem dX8_has_13 : decode cX8_has 13 = .ok (.goto 4, 3) := by decide +kernel
theorem dX8_has_16 : decode cX8_has 16 = .ok (.iconst 0, 1) := by decide +kernel
theorem dX8_has_17 : decode cX8_has 17 = .ok (.ireturn, 1) := by decide +kernel
set_option maxRecDepth 100000 in
def F_X8_has_b17 (t0 : Int32) (h : Hp) : Option Int32 :=
  gd (decide (t0 = 0 ∨ t0 = 1)) <| some t0
set_option maxHeartbeats 4000000 in
set_option maxRecDepth 100000 in
theorem r_X8_has_b17 (t0 : Int32) (h : Hp) {x : Cx} {r : Int32} (e : F_X8_has_b17 t0 h = some r) (hF : Fin9 M_X8_has x (some .boolean) (some (.int r)) h) : V M_X8_has x 0 17 [] [.int t0] h 0 0 := by
  unfold F_X8_has_b17 at e
  obtain ⟨g1, e⟩ := gd_some e
  cases e
  exact V_zret (pc := 17) dX8_has_17 (z01 (of_decide_eq_true g1)) hF
set_option maxRecDepth 100000 in
def F_X8_has_b16  (h : Hp) : Option Int32 :=
  F_X8_has_b17 (0 : Int32) h
set_option maxHeartbeats 4000000 in
set_option maxRecDepth 100000 in
theorem r_X8_has_b16  (h : Hp) {x : Cx} {r : Int32} (e : F_X8_has_b16  h = some r) (hF : Fin9 M_X8_has x (some .boolean) (some (.int r)) h) : V M_X8_has x 0 16 [] [] h 0 0 := by
  unfold F_X8_has_b16 at e
  refine V_iconst (pc := 16) (v := (0 : Int32)) dX8_has_16 (by decide) ?_
  exact V_pick [] rfl (r_X8_has_b17 (0 : Int32) h e hF)
set_option maxRecDepth 100000 in
def F_X8_has_b0 (v0 : Nat) (v1 : Int32) (h : Hp) : Option Int32 :=
  (if v1 < 0 then F_X8_has_b16 h else gd (decide (kd h v0 = 7)) <| (if (zI h v0 0) ≤ v1 then F_X8_has_b16 h else F_X8_has_b17 (1 : Int32) h))
set_option maxHeartbeats 4000000 in
set_option maxRecDepth 100000 in
theorem r_X8_has_b0 (v0 : Nat) (v1 : Int32) (h : Hp) {x : Cx} {r : Int32} (e : F_X8_has_b0 v0 v1 h = some r) (hF : Fin9 M_X8_has x (some .boolean) (some (.int r)) h) : V M_X8_has x 0 0 [(0, .ref v0), (1, .int v1)] [] h 0 0 := by
  unfold F_X8_has_b0 at e
  refine V_iload_n (pc := 0) (i := 1) dX8_has_0 rfl rfl ?_
  refine V_if_lt (pc := 1) (tgt := 16) dX8_has_1 (by decide) (fun c4 => ?_) (fun c4 => ?_)
  · rw [if_pos c4] at e
    exact V_pick [] rfl (r_X8_has_b16 h e hF)
  · rw [if_neg c4] at e
    refine V_pick [0, 1] rfl ?_
    refine V_iload_n (pc := 4) (i := 1) dX8_has_4 rfl rfl ?_
    refine V_aload_n (pc := 5) (i := 0) dX8_has_5 rfl rfl ?_
    obtain ⟨g2, e⟩ := gd_some e
    refine V_getI (pc := 6) (ci := 7) (k := 0) dX8_has_6 fl_X8_9 rfl (of_decide_eq_true g2) ?_
    refine V_icmp_ge (pc := 9) (tgt := 16) dX8_has_9 (by decide) (fun c3 => ?_) (fun c3 => ?_)
    · rw [if_pos c3] at e
      exact V_pick [] rfl (r_X8_has_b16 h e hF)
    · rw [if_neg c3] at e
      refine V_pick [] rfl ?_
      refine V_iconst (pc := 12) (v := (1 : Int32)) dX8_has_12 (by decide) ?_
      refine V_goto (pc := 13) (tgt := 17) dX8_has_13 (by decide) ?_
      exact V_pick [] rfl (r_X8_has_b17 (1 : Int32) h e hF)
def F_X8_has (v0 : Nat) (v1 : Int32) (h : Hp) : Option Int32 := F_X8_has_b0 v0 v1 h
theorem c_X8_has {l : Launch} (v0 : Nat) (v1 : Int32) (h : Hp) {r : Int32} (e : F_X8_has v0 v1 h = some r) : Ct l yX8_has M_X8_has (some .boolean) 0 [.ref v0, .int v1] h 0 0 (some (.int r)) h :=
  Ct_of rfl rfl (fun q => by cases q) (Nat.le_of_ble_eq_true rfl) (fun x _ hF => V_pick [0, 1] rfl (r_X8_has_b0 v0 v1 h e hF))
theorem dX8_mayWeigh_0 : decode cX8_mayWeigh 0 = .ok (.lload_n 2, 1) := by decide +kernel
theorem dX8_mayWeigh_1 : decode cX8_mayWeigh 1 = .ok (.aload_n 0, 1) := by decide +kernel
theorem dX8_mayWeigh_2 : decode cX8_mayWeigh 2 = .ok (.getfield 15, 3) := by decide +kernel
theorem dX8_mayWeigh_5 : decode cX8_mayWeigh 5 = .ok (.iload_n 1, 1) := by decide +kernel
theorem dX8_mayWeigh_6 : decode cX8_mayWeigh 6 = .ok (.iaload, 1) := by decide +kernel
theorem dX8_mayWeigh_7 : decode cX8_mayWeigh 7 = .ok (.i2l, 1) := by decide +kernel
theorem dX8_mayWeigh_8 : decode cX8_mayWeigh 8 = .ok (.lcmp, 1) := by decide +kernel
theorem dX8_mayWeigh_9 : decode cX8_mayWeigh 9 = .ok (.ifCond .lt 19, 3) := by decide +kernel
theorem dX8_mayWeigh_12 : decode cX8_mayWeigh 12 = .ok (.lload_n 2, 1) := by decide +kernel
theorem dX8_mayWeigh_13 : decode cX8_mayWeigh 13 = .ok (.aload_n 0, 1) := by decide +kernel
theorem dX8_mayWeigh_14 : decode cX8_mayWeigh 14 = .ok (.getfield 19, 3) := by decide +kernel
theorem dX8_mayWeigh_17 : decode cX8_mayWeigh 17 = .ok (.iload_n 1, 1) := by decide +kernel
theorem dX8_mayWeigh_18 : decode cX8_mayWeigh 18 = .ok (.iaload, 1) := by decide +kernel
theorem dX8_mayWeigh_19 : decode cX8_mayWeigh 19 = .ok (.i2l, 1) := by decide +kernel
theorem dX8_mayWeigh_20 : decode cX8_mayWeigh 20 = .ok (.lcmp, 1) := by decide +kernel
theorem dX8_mayWeigh_21 : decode cX8_mayWeigh 21 = .ok (.ifCond .gt 7, 3) := by decide +kernel
theorem dX8_mayWeigh_24 : decode cX8_mayWeigh 24 = .ok (.iconst 1, 1) := by decide +kernel
theorem dX8_mayWeigh_25 : decode cX8_mayWeigh 25 = .ok (.goto 4, 3) := by decide +kernel
theorem dX8_mayWeigh_28 : decode cX8_mayWeigh 28 = .ok (.iconst 0, 1) := by decide +kernel
theorem dX8_mayWeigh_29 : decode cX8_mayWeigh 29 = .ok (.ireturn, 1) := by decide +kernel
set_option maxRecDepth 100000 in
def F_X8_mayWeigh_b29 (t0 : Int32) (h : Hp) : Option Int32 :=
  gd (decide (t0 = 0 ∨ t0 = 1)) <| some t0
set_option maxHeartbeats 4000000 in
set_option maxRecDepth 100000 in
theorem r_X8_mayWeigh_b29 (t0 : Int32) (h : Hp) {x : Cx} {r : Int32} (e : F_X8_mayWeigh_b29 t0 h = some r) (hF : Fin9 M_X8_mayWeigh x (some .boolean) (some (.int r)) h) : V M_X8_mayWeigh x 0 29 [] [.int t0] h 0 0 := by
  unfold F_X8_mayWeigh_b29 at e
  obtain ⟨g6, e⟩ := gd_some e
  cases e
  exact V_zret (pc := 29) dX8_mayWeigh_29 (z01 (of_decide_eq_true g6)) hF
set_option maxRecDepth 100000 in
def F_X8_mayWeigh_b28  (h : Hp) : Option Int32 :=
  F_X8_mayWeigh_b29 (0 : Int32) h
set_option maxHeartbeats 4000000 in
set_option maxRecDepth 100000 in
theorem r_X8_mayWeigh_b28  (h : Hp) {x : Cx} {r : Int32} (e : F_X8_mayWeigh_b28  h = some r) (hF : Fin9 M_X8_mayWeigh x (some .boolean) (some (.int r)) h) : V M_X8_mayWeigh x 0 28 [] [] h 0 0 := by
  unfold F_X8_mayWeigh_b28 at e
  refine V_iconst (pc := 28) (v := (0 : Int32)) dX8_mayWeigh_28 (by decide) ?_
  exact V_pick [] rfl (r_X8_mayWeigh_b29 (0 : Int32) h e hF)
set_option maxRecDepth 100000 in
def F_X8_mayWeigh_b0 (v0 : Nat) (v1 : Int32) (v2 : Int64) (h : Hp) : Option Int32 :=
  gd (decide (kd h v0 = 7)) <| ob (zR h v0 1) fun q2 => gd (decide (kd h q2 = 13)) <| gd (ix v1 (zl h q2)) <| (if (lg_cmp v2 ((zI h q2 (v1).toNatClampNeg).toInt64)) < 0 then F_X8_mayWeigh_b28 h else ob (zR h v0 2) fun q7 => gd (decide (kd h q7 = 13)) <| gd (ix v1 (zl h q7)) <| (if 0 < (lg_cmp v2 ((zI h q7 (v1).toNatClampNeg).toInt64)) then F_X8_mayWeigh_b28 h else F_X8_mayWeigh_b29 (1 : Int32) h))
set_option maxHeartbeats 4000000 in
set_option maxRecDepth 100000 in
theorem r_X8_mayWeigh_b0 (v0 : Nat) (v1 : Int32) (v2 : Int64) (h : Hp) {x : Cx} {r : Int32} (e : F_X8_mayWeigh_b0 v0 v1 v2 h = some r) (hF : Fin9 M_X8_mayWeigh x (some .boolean) (some (.int r)) h) : V M_X8_mayWeigh x 0 0 [(0, .ref v0), (1, .int v1), (2, .long v2)] [] h 0 0 := by
  unfold F_X8_mayWeigh_b0 at e
  refine V_lload_n (pc := 0) (i := 2) dX8_mayWeigh_0 rfl rfl ?_
  refine V_aload_n (pc := 1) (i := 0) dX8_mayWeigh_1 rfl rfl ?_
  obtain ⟨g1, e⟩ := gd_some e
  obtain ⟨q2, g3, e⟩ := ob_some e
  refine V_getR (pc := 2) (ci := 7) (k := 1) (b := q2) dX8_mayWeigh_2 fl_X8_15 rfl (of_decide_eq_true g1) g3 ?_
  refine V_iload_n (pc := 5) (i := 1) dX8_mayWeigh_5 rfl rfl ?_
  obtain ⟨g4, e⟩ := gd_some e
  obtain ⟨g5, e⟩ := gd_some e
  refine V_iald (pc := 6) dX8_mayWeigh_6 (of_decide_eq_true g4) (ix_in g5) ?_
  refine V_i2l (pc := 7) dX8_mayWeigh_7 ?_
  refine V_lcmp (pc := 8) dX8_mayWeigh_8 ?_
  refine V_if_lt (pc := 9) (tgt := 28) dX8_mayWeigh_9 (by decide) (fun c12 => ?_) (fun c12 => ?_)
  · rw [if_pos c12] at e
    exact V_pick [] rfl (r_X8_mayWeigh_b28 h e hF)
  · rw [if_neg c12] at e
    refine V_pick [0, 1, 2] rfl ?_
    refine V_lload_n (pc := 12) (i := 2) dX8_mayWeigh_12 rfl rfl ?_
    refine V_aload_n (pc := 13) (i := 0) dX8_mayWeigh_13 rfl rfl ?_
    obtain ⟨q7, g8, e⟩ := ob_some e
    refine V_getR (pc := 14) (ci := 7) (k := 2) (b := q7) dX8_mayWeigh_14 fl_X8_19 rfl (of_decide_eq_true g1) g8 ?_
    refine V_iload_n (pc := 17) (i := 1) dX8_mayWeigh_17 rfl rfl ?_
    obtain ⟨g9, e⟩ := gd_some e
    obtain ⟨g10, e⟩ := gd_some e
    refine V_iald (pc := 18) dX8_mayWeigh_18 (of_decide_eq_true g9) (ix_in g10) ?_
    refine V_i2l (pc := 19) dX8_mayWeigh_19 ?_
    refine V_lcmp (pc := 20) dX8_mayWeigh_20 ?_
    refine V_if_gt (pc := 21) (tgt := 28) dX8_mayWeigh_21 (by decide) (fun c11 => ?_) (fun c11 => ?_)
    · rw [if_pos c11] at e
      exact V_pick [] rfl (r_X8_mayWeigh_b28 h e hF)
    · rw [if_neg c11] at e
      refine V_pick [] rfl ?_
      refine V_iconst (pc := 24) (v := (1 : Int32)) dX8_mayWeigh_24 (by decide) ?_
      refine V_goto (pc := 25) (tgt := 29) dX8_mayWeigh_25 (by decide) ?_
      exact V_pick [] rfl (r_X8_mayWeigh_b29 (1 : Int32) h e hF)
def F_X8_mayWeigh (v0 : Nat) (v1 : Int32) (v2 : Int64) (h : Hp) : Option Int32 := F_X8_mayWeigh_b0 v0 v1 v2 h
theorem c_X8_mayWeigh {l : Launch} (v0 : Nat) (v1 : Int32) (v2 : Int64) (h : Hp) {r : Int32} (e : F_X8_mayWeigh v0 v1 v2 h = some r) : Ct l yX8_mayWeigh M_X8_mayWeigh (some .boolean) 0 [.ref v0, .int v1, .long v2] h 0 0 (some (.int r)) h :=
  Ct_of rfl rfl (fun q => by cases q) (Nat.le_of_ble_eq_true rfl) (fun x _ hF => V_pick [0, 1, 2] rfl (r_X8_mayWeigh_b0 v0 v1 v2 h e hF))
theorem dX8_lyingIn_0 : decode cX8_lyingIn 0 = .ok (.iconst 0, 1) := by decide +kernel
theorem dX8_lyingIn_1 : decode cX8_lyingIn 1 = .ok (.istore_n 2, 1) := by decide +kernel
theorem dX8_lyingIn_2 : decode cX8_lyingIn 2 = .ok (.iconst 0, 1) := by decide +kernel
theorem dX8_lyingIn_3 : decode cX8_lyingIn 3 = .ok (.istore_n 3, 1) := by decide +kernel
theorem dX8_lyingIn_4 : decode cX8_lyingIn 4 = .ok (.iload_n 3, 1) := by decide +kernel
theorem dX8_lyingIn_5 : decode cX8_lyingIn 5 = .ok (.aload_n 0, 1) := by decide +kernel
theorem dX8_lyingIn_6 : decode cX8_lyingIn 6 = .ok (.getfield 9, 3) := by decide +kernel
theorem dX8_lyingIn_9 : decode cX8_lyingIn 9 = .ok (.if_icmp .ge 22, 3) := by decide +kernel
theorem dX8_lyingIn_12 : decode cX8_lyingIn 12 = .ok (.aload_n 0, 1) := by decide +kernel
theorem dX8_lyingIn_13 : decode cX8_lyingIn 13 = .ok (.getfield 22, 3) := by decide +kernel
theorem dX8_lyingIn_16 : decode cX8_lyingIn 16 = .ok (.iload_n 3, 1) := by decide +kernel
theorem dX8_lyingIn_17 : decode cX8_lyingIn 17 = .ok (.iaload, 1) := by decide +kernel
theorem dX8_lyingIn_18 : decode cX8_lyingIn 18 = .ok (.iload_n 1, 1) := by decide +kernel
theorem dX8_lyingIn_19 : decode cX8_lyingIn 19 = .ok (.if_icmp .ne 6, 3) := by decide +kernel
theorem dX8_lyingIn_22 : decode cX8_lyingIn 22 = .ok (.iinc 2 1, 3) := by decide +kernel
theorem dX8_lyingIn_25 : decode cX8_lyingIn 25 = .ok (.iinc 3 1, 3) := by decide +kernel
theorem dX8_lyingIn_28 : decode cX8_lyingIn 28 = .ok (.goto (-24), 3) := by decide +kernel
theorem dX8_lyingIn_31 : decode cX8_lyingIn 31 = .ok (.iload_n 2, 1) := by decide +kernel
theorem dX8_lyingIn_32 : decode cX8_lyingIn 32 = .ok (.ireturn, 1) := by decide +kernel
set_option maxRecDepth 100000 in
def F_X8_lyingIn_b25 (v0 : Nat) (v1 : Int32) (v2 : Int32) (v3 : Int32) (h : Hp) : Option ((Int32 × Int32) ⊕ Int32) :=
  some (.inl (v2, v3 + (1 : Int32)))
set_option maxHeartbeats 4000000 in
set_option maxRecDepth 100000 in
theorem r_X8_lyingIn_b25 (v0 : Nat) (v1 : Int32) (v2 : Int32) (v3 : Int32) (h : Hp) {x : Cx} {o : ((Int32 × Int32) ⊕ Int32)} (e : F_X8_lyingIn_b25 v0 v1 v2 v3 h = some o) (kI : ∀ z, o = .inl z → V M_X8_lyingIn x 0 4 [(0, .ref v0), (1, .int v1), (2, .int z.1), (3, .int z.2)] [] h 0 0) (kE31 : ∀ z : Int32, o = .inr z → V M_X8_lyingIn x 0 31 [(2, .int z)] [] h 0 0) : V M_X8_lyingIn x 0 25 [(0, .ref v0), (1, .int v1), (2, .int v2), (3, .int v3)] [] h 0 0 := by
  unfold F_X8_lyingIn_b25 at e
  refine V_iinc (pc := 25) (i := 3) (u := v3 + (1 : Int32)) (lv' := [(3, .int (v3 + (1 : Int32))), (0, .ref v0), (1, .int v1), (2, .int v2)]) dX8_lyingIn_25 rfl rfl (by decide) rfl ?_
  refine V_goto (pc := 28) (tgt := 4) dX8_lyingIn_28 (by decide) ?_
  cases e
  exact V_pick [1, 2, 3, 0] rfl (kI _ rfl)
set_option maxRecDepth 100000 in
def F_X8_lyingIn_l4 (v0 : Nat) (v1 : Int32) (v2 : Int32) (v3 : Int32) (h : Hp) : Option ((Int32 × Int32) ⊕ Int32) :=
  gd (decide (kd h v0 = 7)) <| (if (zI h v0 0) ≤ v3 then some (.inr v2) else ob (zR h v0 3) fun q2 => gd (decide (kd h q2 = 13)) <| gd (ix v3 (zl h q2)) <| (if (zI h q2 (v3).toNatClampNeg) = v1 then F_X8_lyingIn_b25 v0 v1 (v2 + (1 : Int32)) v3 h else F_X8_lyingIn_b25 v0 v1 v2 v3 h))
set_option maxHeartbeats 4000000 in
set_option maxRecDepth 100000 in
theorem r_X8_lyingIn_l4 (v0 : Nat) (v1 : Int32) (v2 : Int32) (v3 : Int32) (h : Hp) {x : Cx} {o : ((Int32 × Int32) ⊕ Int32)} (e : F_X8_lyingIn_l4 v0 v1 v2 v3 h = some o) (kI : ∀ z, o = .inl z → V M_X8_lyingIn x 0 4 [(0, .ref v0), (1, .int v1), (2, .int z.1), (3, .int z.2)] [] h 0 0) (kE31 : ∀ z : Int32, o = .inr z → V M_X8_lyingIn x 0 31 [(2, .int z)] [] h 0 0) : V M_X8_lyingIn x 0 4 [(0, .ref v0), (1, .int v1), (2, .int v2), (3, .int v3)] [] h 0 0 := by
  unfold F_X8_lyingIn_l4 at e
  refine V_iload_n (pc := 4) (i := 3) dX8_lyingIn_4 rfl rfl ?_
  refine V_aload_n (pc := 5) (i := 0) dX8_lyingIn_5 rfl rfl ?_
  obtain ⟨g1, e⟩ := gd_some e
  refine V_getI (pc := 6) (ci := 7) (k := 0) dX8_lyingIn_6 fl_X8_9 rfl (of_decide_eq_true g1) ?_
  refine V_icmp_ge (pc := 9) (tgt := 31) dX8_lyingIn_9 (by decide) (fun c7 => ?_) (fun c7 => ?_)
  · rw [if_pos c7] at e
    cases e
    exact V_pick [2] rfl (kE31 _ rfl)
  · rw [if_neg c7] at e
    refine V_pick [0, 1, 2, 3] rfl ?_
    refine V_aload_n (pc := 12) (i := 0) dX8_lyingIn_12 rfl rfl ?_
    obtain ⟨q2, g3, e⟩ := ob_some e
    refine V_getR (pc := 13) (ci := 7) (k := 3) (b := q2) dX8_lyingIn_13 fl_X8_22 rfl (of_decide_eq_true g1) g3 ?_
    refine V_iload_n (pc := 16) (i := 3) dX8_lyingIn_16 rfl rfl ?_
    obtain ⟨g4, e⟩ := gd_some e
    obtain ⟨g5, e⟩ := gd_some e
    refine V_iald (pc := 17) dX8_lyingIn_17 (of_decide_eq_true g4) (ix_in g5) ?_
    refine V_iload_n (pc := 18) (i := 1) dX8_lyingIn_18 rfl rfl ?_
    refine V_icmp_ne (pc := 19) (tgt := 25) dX8_lyingIn_19 (by decide) (fun c6 => ?_) (fun c6 => ?_)
    · rw [if_neg c6] at e
      exact V_pick [0, 1, 2, 3] rfl (r_X8_lyingIn_b25 v0 v1 v2 v3 h e kI kE31)
    · rw [if_pos c6] at e
      refine V_pick [0, 1, 2, 3] rfl ?_
      refine V_iinc (pc := 22) (i := 2) (u := v2 + (1 : Int32)) (lv' := [(2, .int (v2 + (1 : Int32))), (0, .ref v0), (1, .int v1), (3, .int v3)]) dX8_lyingIn_22 rfl rfl (by decide) rfl ?_
      exact V_pick [1, 2, 0, 3] rfl (r_X8_lyingIn_b25 v0 v1 (v2 + (1 : Int32)) v3 h e kI kE31)
set_option maxRecDepth 100000 in
def F_X8_lyingIn_b0 (v0 : Nat) (v1 : Int32) (h : Hp) : Option Int32 :=
  ob (iter (fun z : Int32 × Int32 => F_X8_lyingIn_l4 v0 v1 z.1 z.2 h) FU ((0 : Int32), (0 : Int32))) (fun w8 => some w8)
set_option maxHeartbeats 4000000 in
set_option maxRecDepth 100000 in
theorem r_X8_lyingIn_b0 (v0 : Nat) (v1 : Int32) (h : Hp) {x : Cx} {r : Int32} (e : F_X8_lyingIn_b0 v0 v1 h = some r) (hF : Fin9 M_X8_lyingIn x (some .int) (some (.int r)) h) : V M_X8_lyingIn x 0 0 [(0, .ref v0), (1, .int v1)] [] h 0 0 := by
  unfold F_X8_lyingIn_b0 at e
  refine V_iconst (pc := 0) (v := (0 : Int32)) dX8_lyingIn_0 (by decide) ?_
  refine V_istore_n (pc := 1) (i := 2) (lv' := [(2, .int (0 : Int32)), (0, .ref v0), (1, .int v1)]) dX8_lyingIn_1 rfl (by decide) rfl ?_
  refine V_iconst (pc := 2) (v := (0 : Int32)) dX8_lyingIn_2 (by decide) ?_
  refine V_istore_n (pc := 3) (i := 3) (lv' := [(3, .int (0 : Int32)), (2, .int (0 : Int32)), (0, .ref v0), (1, .int v1)]) dX8_lyingIn_3 rfl (by decide) rfl ?_
  refine V_pick [2, 3, 1, 0] rfl ?_
  obtain ⟨y9, g10, e⟩ := ob_some e
  refine iter_V (P := fun z : Int32 × Int32 => V M_X8_lyingIn x 0 4 [(0, .ref v0), (1, .int v1), (2, .int z.1), (3, .int z.2)] [] h 0 0) (E := fun z : Int32 => V M_X8_lyingIn x 0 31 [(2, .int z)] [] h 0 0) (fun z o e9 k1 k2 => r_X8_lyingIn_l4 v0 v1 z.1 z.2 h e9 (fun z hz9 => k1 z hz9) (fun z hz9 => k2 _ hz9)) _ _ _ g10 ?_
  clear g10
  obtain ⟨w8, rfl⟩ : ∃ q, q = y9 := ⟨_, rfl⟩
  replace e : some w8 = some r := e
  show V M_X8_lyingIn x 0 31 [(2, .int w8)] [] h 0 0
  refine V_iload_n (pc := 31) (i := 2) dX8_lyingIn_31 rfl rfl ?_
  cases e
  exact V_iret (pc := 32) dX8_lyingIn_32 hF
def F_X8_lyingIn (v0 : Nat) (v1 : Int32) (h : Hp) : Option Int32 := F_X8_lyingIn_b0 v0 v1 h
theorem c_X8_lyingIn {l : Launch} (v0 : Nat) (v1 : Int32) (h : Hp) {r : Int32} (e : F_X8_lyingIn v0 v1 h = some r) : Ct l yX8_lyingIn M_X8_lyingIn (some .int) 0 [.ref v0, .int v1] h 0 0 (some (.int r)) h :=
  Ct_of rfl rfl (fun q => by cases q) (Nat.le_of_ble_eq_true rfl) (fun x _ hF => V_pick [0, 1] rfl (r_X8_lyingIn_b0 v0 v1 h e hF))
theorem dX8_lowest_0 : decode cX8_lowest 0 = .ok (.iconst 0, 1) := by decide +kernel
theorem dX8_lowest_1 : decode cX8_lowest 1 = .ok (.istore_n 2, 1) := by decide +kernel
theorem dX8_lowest_2 : decode cX8_lowest 2 = .ok (.iconst 0, 1) := by decide +kernel
theorem dX8_lowest_3 : decode cX8_lowest 3 = .ok (.istore_n 3, 1) := by decide +kernel
theorem dX8_lowest_4 : decode cX8_lowest 4 = .ok (.iload_n 3, 1) := by decide +kernel
theorem dX8_lowest_5 : decode cX8_lowest 5 = .ok (.aload_n 0, 1) := by decide +kernel
theorem dX8_lowest_6 : decode cX8_lowest 6 = .ok (.getfield 9, 3) := by decide +kernel
theorem dX8_lowest_9 : decode cX8_lowest 9 = .ok (.if_icmp .ge 45, 3) := by decide +kernel
theorem dX8_lowest_12 : decode cX8_lowest 12 = .ok (.aload_n 1, 1) := by decide +kernel
theorem dX8_lowest_13 : decode cX8_lowest 13 = .ok (.aload_n 0, 1) := by decide +kernel
theorem dX8_lowest_14 : decode cX8_lowest 14 = .ok (.getfield 22, 3) := by decide +kernel
theorem dX8_lowest_17 : decode cX8_lowest 17 = .ok (.iload_n 3, 1) := by decide +kernel
theorem dX8_lowest_18 : decode cX8_lowest 18 = .ok (.iaload, 1) := by decide +kernel
theorem dX8_lowest_19 : decode cX8_lowest 19 = .ok (.iaload, 1) := by decide +kernel
theorem dX8_lowest_20 : decode cX8_lowest 20 = .ok (.istore 4, 2) := by decide +kernel
theorem dX8_lowest_22 : decode cX8_lowest 22 = .ok (.iload_n 2, 1) := by decide +kernel
theorem dX8_lowest_23 : decode cX8_lowest 23 = .ok (.iload 4, 2) := by decide +kernel
theorem dX8_lowest_25 : decode cX8_lowest 25 = .ok (.iload 4, 2) := by decide +kernel
theorem dX8_lowest_27 : decode cX8_lowest 27 = .ok (.ifCond .ge 12, 3) := by decide +kernel
theorem dX8_lowest_30 : decode cX8_lowest 30 = .ok (.aload_n 0, 1) := by decide +kernel
theorem dX8_lowest_31 : decode cX8_lowest 31 = .ok (.getfield 19, 3) := by decide +kernel
theorem dX8_lowest_34 : decode cX8_lowest 34 = .ok (.iload_n 3, 1) := by decide +kernel
theorem dX8_lowest_35 : decode cX8_lowest 35 = .ok (.iaload, 1) := by decide +kernel
theorem dX8_lowest_36 : decode cX8_lowest 36 = .ok (.goto 9, 3) := by decide +kernel
theorem dX8_lowest_39 : decode cX8_lowest 39 = .ok (.aload_n 0, 1) := by decide +kernel
theorem dX8_lowest_40 : decode cX8_lowest 40 = .ok (.getfield 15, 3) := by decide +kernel
theorem dX8_lowest_43 : decode cX8_lowest 43 = .ok (.iload_n 3, 1) := by decide +kernel
theorem dX8_lowest_44 : decode cX8_lowest 44 = .ok (.iaload, 1) := by decide +kernel
theorem dX8_lowest_45 : decode cX8_lowest 45 = .ok (.imul, 1) := by decide +kernel
theorem dX8_lowest_46 : decode cX8_lowest 46 = .ok (.iadd, 1) := by decide +kernel
theorem dX8_lowest_47 : decode cX8_lowest 47 = .ok (.istore_n 2, 1) := by decide +kernel
theorem dX8_lowest_48 : decode cX8_lowest 48 = .ok (.iinc 3 1, 3) := by decide +kernel
theorem dX8_lowest_51 : decode cX8_lowest 51 = .ok (.goto (-47), 3) := by decide +kernel
theorem dX8_lowest_54 : decode cX8_lowest 54 = .ok (.iload_n 2, 1) := by decide +kernel
theorem dX8_lowest_55 : decode cX8_lowest 55 = .ok (.ireturn, 1) := by decide +kernel
set_option maxRecDepth 100000 in
def F_X8_lowest_b45 (v0 : Nat) (v1 : Nat) (v3 : Int32) (t0 : Int32) (t1 : Int32) (t2 : Int32) (h : Hp) : Option ((Int32 × Int32) ⊕ Int32) :=
  some (.inl (t0 + (t1 * t2), v3 + (1 : Int32)))
set_option maxHeartbeats 4000000 in
set_option maxRecDepth 100000 in
theorem r_X8_lowest_b45 (v0 : Nat) (v1 : Nat) (v3 : Int32) (t0 : Int32) (t1 : Int32) (t2 : Int32) (h : Hp) {x : Cx} {o : ((Int32 × Int32) ⊕ Int32)} (e : F_X8_lowest_b45 v0 v1 v3 t0 t1 t2 h = some o) (kI : ∀ z, o = .inl z → V M_X8_lowest x 0 4 [(0, .ref v0), (1, .ref v1), (2, .int z.1), (3, .int z.2)] [] h 0 0) (kE54 : ∀ z : Int32, o = .inr z → V M_X8_lowest x 0 54 [(2, .int z)] [] h 0 0) : V M_X8_lowest x 0 45 [(0, .ref v0), (1, .ref v1), (3, .int v3)] [.int t2, .int t1, .int t0] h 0 0 := by
  unfold F_X8_lowest_b45 at e
  refine V_imul (pc := 45) dX8_lowest_45 ?_
  refine V_iadd (pc := 46) dX8_lowest_46 ?_
  refine V_istore_n (pc := 47) (i := 2) (lv' := [(2, .int (t0 + (t1 * t2))), (0, .ref v0), (1, .ref v1), (3, .int v3)]) dX8_lowest_47 rfl (by decide) rfl ?_
  refine V_iinc (pc := 48) (i := 3) (u := v3 + (1 : Int32)) (lv' := [(3, .int (v3 + (1 : Int32))), (2, .int (t0 + (t1 * t2))), (0, .ref v0), (1, .ref v1)]) dX8_lowest_48 rfl rfl (by decide) rfl ?_
  refine V_goto (pc := 51) (tgt := 4) dX8_lowest_51 (by decide) ?_
  cases e
  exact V_pick [2, 3, 1, 0] rfl (kI _ rfl)
set_option maxRecDepth 100000 in
def F_X8_lowest_l4 (v0 : Nat) (v1 : Nat) (v2 : Int32) (v3 : Int32) (h : Hp) : Option ((Int32 × Int32) ⊕ Int32) :=
  gd (decide (kd h v0 = 7)) <| (if (zI h v0 0) ≤ v3 then some (.inr v2) else ob (zR h v0 3) fun q2 => gd (decide (kd h q2 = 13)) <| gd (ix v3 (zl h q2)) <| gd (decide (kd h v1 = 13)) <| gd (ix (zI h q2 (v3).toNatClampNeg) (zl h v1)) <| (if 0 ≤ (zI h v1 (zI h q2 (v3).toNatClampNeg).toNatClampNeg) then ob (zR h v0 1) fun q8 => gd (decide (kd h q8 = 13)) <| gd (ix v3 (zl h q8)) <| F_X8_lowest_b45 v0 v1 v3 v2 (zI h v1 (zI h q2 (v3).toNatClampNeg).toNatClampNeg) (zI h q8 (v3).toNatClampNeg) h else ob (zR h v0 2) fun q12 => gd (decide (kd h q12 = 13)) <| gd (ix v3 (zl h q12)) <| F_X8_lowest_b45 v0 v1 v3 v2 (zI h v1 (zI h q2 (v3).toNatClampNeg).toNatClampNeg) (zI h q12 (v3).toNatClampNeg) h))
set_option maxHeartbeats 4000000 in
set_option maxRecDepth 100000 in
theorem r_X8_lowest_l4 (v0 : Nat) (v1 : Nat) (v2 : Int32) (v3 : Int32) (h : Hp) {x : Cx} {o : ((Int32 × Int32) ⊕ Int32)} (e : F_X8_lowest_l4 v0 v1 v2 v3 h = some o) (kI : ∀ z, o = .inl z → V M_X8_lowest x 0 4 [(0, .ref v0), (1, .ref v1), (2, .int z.1), (3, .int z.2)] [] h 0 0) (kE54 : ∀ z : Int32, o = .inr z → V M_X8_lowest x 0 54 [(2, .int z)] [] h 0 0) : V M_X8_lowest x 0 4 [(0, .ref v0), (1, .ref v1), (2, .int v2), (3, .int v3)] [] h 0 0 := by
  unfold F_X8_lowest_l4 at e
  refine V_iload_n (pc := 4) (i := 3) dX8_lowest_4 rfl rfl ?_
  refine V_aload_n (pc := 5) (i := 0) dX8_lowest_5 rfl rfl ?_
  obtain ⟨g1, e⟩ := gd_some e
  refine V_getI (pc := 6) (ci := 7) (k := 0) dX8_lowest_6 fl_X8_9 rfl (of_decide_eq_true g1) ?_
  refine V_icmp_ge (pc := 9) (tgt := 54) dX8_lowest_9 (by decide) (fun c17 => ?_) (fun c17 => ?_)
  · rw [if_pos c17] at e
    cases e
    exact V_pick [2] rfl (kE54 _ rfl)
  · rw [if_neg c17] at e
    refine V_pick [0, 1, 2, 3] rfl ?_
    refine V_aload_n (pc := 12) (i := 1) dX8_lowest_12 rfl rfl ?_
    refine V_aload_n (pc := 13) (i := 0) dX8_lowest_13 rfl rfl ?_
    obtain ⟨q2, g3, e⟩ := ob_some e
    refine V_getR (pc := 14) (ci := 7) (k := 3) (b := q2) dX8_lowest_14 fl_X8_22 rfl (of_decide_eq_true g1) g3 ?_
    refine V_iload_n (pc := 17) (i := 3) dX8_lowest_17 rfl rfl ?_
    obtain ⟨g4, e⟩ := gd_some e
    obtain ⟨g5, e⟩ := gd_some e
    refine V_iald (pc := 18) dX8_lowest_18 (of_decide_eq_true g4) (ix_in g5) ?_
    obtain ⟨g6, e⟩ := gd_some e
    obtain ⟨g7, e⟩ := gd_some e
    refine V_iald (pc := 19) dX8_lowest_19 (of_decide_eq_true g6) (ix_in g7) ?_
    refine V_istore (pc := 20) (i := 4) (lv' := [(4, .int (zI h v1 (zI h q2 (v3).toNatClampNeg).toNatClampNeg)), (0, .ref v0), (1, .ref v1), (2, .int v2), (3, .int v3)]) dX8_lowest_20 (by decide) rfl ?_
    refine V_iload_n (pc := 22) (i := 2) dX8_lowest_22 rfl rfl ?_
    refine V_iload (pc := 23) (i := 4) dX8_lowest_23 rfl ?_
    refine V_iload (pc := 25) (i := 4) dX8_lowest_25 rfl ?_
    refine V_if_ge (pc := 27) (tgt := 39) dX8_lowest_27 (by decide) (fun c16 => ?_) (fun c16 => ?_)
    · rw [if_pos c16] at e
      refine V_pick [1, 2, 4] rfl ?_
      refine V_aload_n (pc := 39) (i := 0) dX8_lowest_39 rfl rfl ?_
      obtain ⟨q8, g9, e⟩ := ob_some e
      refine V_getR (pc := 40) (ci := 7) (k := 1) (b := q8) dX8_lowest_40 fl_X8_15 rfl (of_decide_eq_true g1) g9 ?_
      refine V_iload_n (pc := 43) (i := 3) dX8_lowest_43 rfl rfl ?_
      obtain ⟨g10, e⟩ := gd_some e
      obtain ⟨g11, e⟩ := gd_some e
      refine V_iald (pc := 44) dX8_lowest_44 (of_decide_eq_true g10) (ix_in g11) ?_
      exact V_pick [0, 1, 2] rfl (r_X8_lowest_b45 v0 v1 v3 v2 (zI h v1 (zI h q2 (v3).toNatClampNeg).toNatClampNeg) (zI h q8 (v3).toNatClampNeg) h e kI kE54)
    · rw [if_neg c16] at e
      refine V_pick [1, 2, 4] rfl ?_
      refine V_aload_n (pc := 30) (i := 0) dX8_lowest_30 rfl rfl ?_
      obtain ⟨q12, g13, e⟩ := ob_some e
      refine V_getR (pc := 31) (ci := 7) (k := 2) (b := q12) dX8_lowest_31 fl_X8_19 rfl (of_decide_eq_true g1) g13 ?_
      refine V_iload_n (pc := 34) (i := 3) dX8_lowest_34 rfl rfl ?_
      obtain ⟨g14, e⟩ := gd_some e
      obtain ⟨g15, e⟩ := gd_some e
      refine V_iald (pc := 35) dX8_lowest_35 (of_decide_eq_true g14) (ix_in g15) ?_
      refine V_goto (pc := 36) (tgt := 45) dX8_lowest_36 (by decide) ?_
      exact V_pick [0, 1, 2] rfl (r_X8_lowest_b45 v0 v1 v3 v2 (zI h v1 (zI h q2 (v3).toNatClampNeg).toNatClampNeg) (zI h q12 (v3).toNatClampNeg) h e kI kE54)
set_option maxRecDepth 100000 in
def F_X8_lowest_b0 (v0 : Nat) (v1 : Nat) (h : Hp) : Option Int32 :=
  ob (iter (fun z : Int32 × Int32 => F_X8_lowest_l4 v0 v1 z.1 z.2 h) FU ((0 : Int32), (0 : Int32))) (fun w18 => some w18)
set_option maxHeartbeats 4000000 in
set_option maxRecDepth 100000 in
theorem r_X8_lowest_b0 (v0 : Nat) (v1 : Nat) (h : Hp) {x : Cx} {r : Int32} (e : F_X8_lowest_b0 v0 v1 h = some r) (hF : Fin9 M_X8_lowest x (some .int) (some (.int r)) h) : V M_X8_lowest x 0 0 [(0, .ref v0), (1, .ref v1)] [] h 0 0 := by
  unfold F_X8_lowest_b0 at e
  refine V_iconst (pc := 0) (v := (0 : Int32)) dX8_lowest_0 (by decide) ?_
  refine V_istore_n (pc := 1) (i := 2) (lv' := [(2, .int (0 : Int32)), (0, .ref v0), (1, .ref v1)]) dX8_lowest_1 rfl (by decide) rfl ?_
  refine V_iconst (pc := 2) (v := (0 : Int32)) dX8_lowest_2 (by decide) ?_
  refine V_istore_n (pc := 3) (i := 3) (lv' := [(3, .int (0 : Int32)), (2, .int (0 : Int32)), (0, .ref v0), (1, .ref v1)]) dX8_lowest_3 rfl (by decide) rfl ?_
  refine V_pick [2, 3, 1, 0] rfl ?_
  obtain ⟨y19, g20, e⟩ := ob_some e
  refine iter_V (P := fun z : Int32 × Int32 => V M_X8_lowest x 0 4 [(0, .ref v0), (1, .ref v1), (2, .int z.1), (3, .int z.2)] [] h 0 0) (E := fun z : Int32 => V M_X8_lowest x 0 54 [(2, .int z)] [] h 0 0) (fun z o e9 k1 k2 => r_X8_lowest_l4 v0 v1 z.1 z.2 h e9 (fun z hz9 => k1 z hz9) (fun z hz9 => k2 _ hz9)) _ _ _ g20 ?_
  clear g20
  obtain ⟨w18, rfl⟩ : ∃ q, q = y19 := ⟨_, rfl⟩
  replace e : some w18 = some r := e
  show V M_X8_lowest x 0 54 [(2, .int w18)] [] h 0 0
  refine V_iload_n (pc := 54) (i := 2) dX8_lowest_54 rfl rfl ?_
  cases e
  exact V_iret (pc := 55) dX8_lowest_55 hF
def F_X8_lowest (v0 : Nat) (v1 : Nat) (h : Hp) : Option Int32 := F_X8_lowest_b0 v0 v1 h
theorem c_X8_lowest {l : Launch} (v0 : Nat) (v1 : Nat) (h : Hp) {r : Int32} (e : F_X8_lowest v0 v1 h = some r) : Ct l yX8_lowest M_X8_lowest (some .int) 0 [.ref v0, .ref v1] h 0 0 (some (.int r)) h :=
  Ct_of rfl rfl (fun q => by cases q) (Nat.le_of_ble_eq_true rfl) (fun x _ hF => V_pick [0, 1] rfl (r_X8_lowest_b0 v0 v1 h e hF))
theorem dX8_highest_0 : decode cX8_highest 0 = .ok (.iconst 0, 1) := by decide +kernel
theorem dX8_highest_1 : decode cX8_highest 1 = .ok (.istore_n 2, 1) := by decide +kernel
theorem dX8_highest_2 : decode cX8_highest 2 = .ok (.iconst 0, 1) := by decide +kernel
theorem dX8_highest_3 : decode cX8_highest 3 = .ok (.istore_n 3, 1) := by decide +kernel
theorem dX8_highest_4 : decode cX8_highest 4 = .ok (.iload_n 3, 1) := by decide +kernel
theorem dX8_highest_5 : decode cX8_highest 5 = .ok (.aload_n 0, 1) := by decide +kernel
theorem dX8_highest_6 : decode cX8_highest 6 = .ok (.getfield 9, 3) := by decide +kernel
theorem dX8_highest_9 : decode cX8_highest 9 = .ok (.if_icmp .ge 45, 3) := by decide +kernel
theorem dX8_highest_12 : decode cX8_highest 12 = .ok (.aload_n 1, 1) := by decide +kernel
theorem dX8_highest_13 : decode cX8_highest 13 = .ok (.aload_n 0, 1) := by decide +kernel
theorem dX8_highest_14 : decode cX8_highest 14 = .ok (.getfield 22, 3) := by decide +kernel
theorem dX8_highest_17 : decode cX8_highest 17 = .ok (.iload_n 3, 1) := by decide +kernel
theorem dX8_highest_18 : decode cX8_highest 18 = .ok (.iaload, 1) := by decide +kernel
theorem dX8_highest_19 : decode cX8_highest 19 = .ok (.iaload, 1) := by decide +kernel
theorem dX8_highest_20 : decode cX8_highest 20 = .ok (.istore 4, 2) := by decide +kernel
theorem dX8_highest_22 : decode cX8_highest 22 = .ok (.iload_n 2, 1) := by decide +kernel
theorem dX8_highest_23 : decode cX8_highest 23 = .ok (.iload 4, 2) := by decide +kernel
theorem dX8_highest_25 : decode cX8_highest 25 = .ok (.iload 4, 2) := by decide +kernel
theorem dX8_highest_27 : decode cX8_highest 27 = .ok (.ifCond .ge 12, 3) := by decide +kernel
theorem dX8_highest_30 : decode cX8_highest 30 = .ok (.aload_n 0, 1) := by decide +kernel
theorem dX8_highest_31 : decode cX8_highest 31 = .ok (.getfield 15, 3) := by decide +kernel
theorem dX8_highest_34 : decode cX8_highest 34 = .ok (.iload_n 3, 1) := by decide +kernel
theorem dX8_highest_35 : decode cX8_highest 35 = .ok (.iaload, 1) := by decide +kernel
theorem dX8_highest_36 : decode cX8_highest 36 = .ok (.goto 9, 3) := by decide +kernel
theorem dX8_highest_39 : decode cX8_highest 39 = .ok (.aload_n 0, 1) := by decide +kernel
theorem dX8_highest_40 : decode cX8_highest 40 = .ok (.getfield 19, 3) := by decide +kernel
theorem dX8_highest_43 : decode cX8_highest 43 = .ok (.iload_n 3, 1) := by decide +kernel
theorem dX8_highest_44 : decode cX8_highest 44 = .ok (.iaload, 1) := by decide +kernel
theorem dX8_highest_45 : decode cX8_highest 45 = .ok (.imul, 1) := by decide +kernel
theorem dX8_highest_46 : decode cX8_highest 46 = .ok (.iadd, 1) := by decide +kernel
theorem dX8_highest_47 : decode cX8_highest 47 = .ok (.istore_n 2, 1) := by decide +kernel
theorem dX8_highest_48 : decode cX8_highest 48 = .ok (.iinc 3 1, 3) := by decide +kernel
theorem dX8_highest_51 : decode cX8_highest 51 = .ok (.goto (-47), 3) := by decide +kernel
theorem dX8_highest_54 : decode cX8_highest 54 = .ok (.iload_n 2, 1) := by decide +kernel
theorem dX8_highest_55 : decode cX8_highest 55 = .ok (.ireturn, 1) := by decide +kernel
set_option maxRecDepth 100000 in
def F_X8_highest_b45 (v0 : Nat) (v1 : Nat) (v3 : Int32) (t0 : Int32) (t1 : Int32) (t2 : Int32) (h : Hp) : Option ((Int32 × Int32) ⊕ Int32) :=
  some (.inl (t0 + (t1 * t2), v3 + (1 : Int32)))
set_option maxHeartbeats 4000000 in
set_option maxRecDepth 100000 in
theorem r_X8_highest_b45 (v0 : Nat) (v1 : Nat) (v3 : Int32) (t0 : Int32) (t1 : Int32) (t2 : Int32) (h : Hp) {x : Cx} {o : ((Int32 × Int32) ⊕ Int32)} (e : F_X8_highest_b45 v0 v1 v3 t0 t1 t2 h = some o) (kI : ∀ z, o = .inl z → V M_X8_highest x 0 4 [(0, .ref v0), (1, .ref v1), (2, .int z.1), (3, .int z.2)] [] h 0 0) (kE54 : ∀ z : Int32, o = .inr z → V M_X8_highest x 0 54 [(2, .int z)] [] h 0 0) : V M_X8_highest x 0 45 [(0, .ref v0), (1, .ref v1), (3, .int v3)] [.int t2, .int t1, .int t0] h 0 0 := by
  unfold F_X8_highest_b45 at e
  refine V_imul (pc := 45) dX8_highest_45 ?_
  refine V_iadd (pc := 46) dX8_highest_46 ?_
  refine V_istore_n (pc := 47) (i := 2) (lv' := [(2, .int (t0 + (t1 * t2))), (0, .ref v0), (1, .ref v1), (3, .int v3)]) dX8_highest_47 rfl (by decide) rfl ?_
  refine V_iinc (pc := 48) (i := 3) (u := v3 + (1 : Int32)) (lv' := [(3, .int (v3 + (1 : Int32))), (2, .int (t0 + (t1 * t2))), (0, .ref v0), (1, .ref v1)]) dX8_highest_48 rfl rfl (by decide) rfl ?_
  refine V_goto (pc := 51) (tgt := 4) dX8_highest_51 (by decide) ?_
  cases e
  exact V_pick [2, 3, 1, 0] rfl (kI _ rfl)
set_option maxRecDepth 100000 in
def F_X8_highest_l4 (v0 : Nat) (v1 : Nat) (v2 : Int32) (v3 : Int32) (h : Hp) : Option ((Int32 × Int32) ⊕ Int32) :=
  gd (decide (kd h v0 = 7)) <| (if (zI h v0 0) ≤ v3 then some (.inr v2) else ob (zR h v0 3) fun q2 => gd (decide (kd h q2 = 13)) <| gd (ix v3 (zl h q2)) <| gd (decide (kd h v1 = 13)) <| gd (ix (zI h q2 (v3).toNatClampNeg) (zl h v1)) <| (if 0 ≤ (zI h v1 (zI h q2 (v3).toNatClampNeg).toNatClampNeg) then ob (zR h v0 2) fun q8 => gd (decide (kd h q8 = 13)) <| gd (ix v3 (zl h q8)) <| F_X8_highest_b45 v0 v1 v3 v2 (zI h v1 (zI h q2 (v3).toNatClampNeg).toNatClampNeg) (zI h q8 (v3).toNatClampNeg) h else ob (zR h v0 1) fun q12 => gd (decide (kd h q12 = 13)) <| gd (ix v3 (zl h q12)) <| F_X8_highest_b45 v0 v1 v3 v2 (zI h v1 (zI h q2 (v3).toNatClampNeg).toNatClampNeg) (zI h q12 (v3).toNatClampNeg) h))
set_option maxHeartbeats 4000000 in
set_option maxRecDepth 100000 in
theorem r_X8_highest_l4 (v0 : Nat) (v1 : Nat) (v2 : Int32) (v3 : Int32) (h : Hp) {x : Cx} {o : ((Int32 × Int32) ⊕ Int32)} (e : F_X8_highest_l4 v0 v1 v2 v3 h = some o) (kI : ∀ z, o = .inl z → V M_X8_highest x 0 4 [(0, .ref v0), (1, .ref v1), (2, .int z.1), (3, .int z.2)] [] h 0 0) (kE54 : ∀ z : Int32, o = .inr z → V M_X8_highest x 0 54 [(2, .int z)] [] h 0 0) : V M_X8_highest x 0 4 [(0, .ref v0), (1, .ref v1), (2, .int v2), (3, .int v3)] [] h 0 0 := by
  unfold F_X8_highest_l4 at e
  refine V_iload_n (pc := 4) (i := 3) dX8_highest_4 rfl rfl ?_
  refine V_aload_n (pc := 5) (i := 0) dX8_highest_5 rfl rfl ?_
  obtain ⟨g1, e⟩ := gd_some e
  refine V_getI (pc := 6) (ci := 7) (k := 0) dX8_highest_6 fl_X8_9 rfl (of_decide_eq_true g1) ?_
  refine V_icmp_ge (pc := 9) (tgt := 54) dX8_highest_9 (by decide) (fun c17 => ?_) (fun c17 => ?_)
  · rw [if_pos c17] at e
    cases e
    exact V_pick [2] rfl (kE54 _ rfl)
  · rw [if_neg c17] at e
    refine V_pick [0, 1, 2, 3] rfl ?_
    refine V_aload_n (pc := 12) (i := 1) dX8_highest_12 rfl rfl ?_
    refine V_aload_n (pc := 13) (i := 0) dX8_highest_13 rfl rfl ?_
    obtain ⟨q2, g3, e⟩ := ob_some e
    refine V_getR (pc := 14) (ci := 7) (k := 3) (b := q2) dX8_highest_14 fl_X8_22 rfl (of_decide_eq_true g1) g3 ?_
    refine V_iload_n (pc := 17) (i := 3) dX8_highest_17 rfl rfl ?_
    obtain ⟨g4, e⟩ := gd_some e
    obtain ⟨g5, e⟩ := gd_some e
    refine V_iald (pc := 18) dX8_highest_18 (of_decide_eq_true g4) (ix_in g5) ?_
    obtain ⟨g6, e⟩ := gd_some e
    obtain ⟨g7, e⟩ := gd_some e
    refine V_iald (pc := 19) dX8_highest_19 (of_decide_eq_true g6) (ix_in g7) ?_
    refine V_istore (pc := 20) (i := 4) (lv' := [(4, .int (zI h v1 (zI h q2 (v3).toNatClampNeg).toNatClampNeg)), (0, .ref v0), (1, .ref v1), (2, .int v2), (3, .int v3)]) dX8_highest_20 (by decide) rfl ?_
    refine V_iload_n (pc := 22) (i := 2) dX8_highest_22 rfl rfl ?_
    refine V_iload (pc := 23) (i := 4) dX8_highest_23 rfl ?_
    refine V_iload (pc := 25) (i := 4) dX8_highest_25 rfl ?_
    refine V_if_ge (pc := 27) (tgt := 39) dX8_highest_27 (by decide) (fun c16 => ?_) (fun c16 => ?_)
    · rw [if_pos c16] at e
      refine V_pick [1, 2, 4] rfl ?_
      refine V_aload_n (pc := 39) (i := 0) dX8_highest_39 rfl rfl ?_
      obtain ⟨q8, g9, e⟩ := ob_some e
      refine V_getR (pc := 40) (ci := 7) (k := 2) (b := q8) dX8_highest_40 fl_X8_19 rfl (of_decide_eq_true g1) g9 ?_
      refine V_iload_n (pc := 43) (i := 3) dX8_highest_43 rfl rfl ?_
      obtain ⟨g10, e⟩ := gd_some e
      obtain ⟨g11, e⟩ := gd_some e
      refine V_iald (pc := 44) dX8_highest_44 (of_decide_eq_true g10) (ix_in g11) ?_
      exact V_pick [0, 1, 2] rfl (r_X8_highest_b45 v0 v1 v3 v2 (zI h v1 (zI h q2 (v3).toNatClampNeg).toNatClampNeg) (zI h q8 (v3).toNatClampNeg) h e kI kE54)
    · rw [if_neg c16] at e
      refine V_pick [1, 2, 4] rfl ?_
      refine V_aload_n (pc := 30) (i := 0) dX8_highest_30 rfl rfl ?_
      obtain ⟨q12, g13, e⟩ := ob_some e
      refine V_getR (pc := 31) (ci := 7) (k := 1) (b := q12) dX8_highest_31 fl_X8_15 rfl (of_decide_eq_true g1) g13 ?_
      refine V_iload_n (pc := 34) (i := 3) dX8_highest_34 rfl rfl ?_
      obtain ⟨g14, e⟩ := gd_some e
      obtain ⟨g15, e⟩ := gd_some e
      refine V_iald (pc := 35) dX8_highest_35 (of_decide_eq_true g14) (ix_in g15) ?_
      refine V_goto (pc := 36) (tgt := 45) dX8_highest_36 (by decide) ?_
      exact V_pick [0, 1, 2] rfl (r_X8_highest_b45 v0 v1 v3 v2 (zI h v1 (zI h q2 (v3).toNatClampNeg).toNatClampNeg) (zI h q12 (v3).toNatClampNeg) h e kI kE54)
set_option maxRecDepth 100000 in
def F_X8_highest_b0 (v0 : Nat) (v1 : Nat) (h : Hp) : Option Int32 :=
  ob (iter (fun z : Int32 × Int32 => F_X8_highest_l4 v0 v1 z.1 z.2 h) FU ((0 : Int32), (0 : Int32))) (fun w18 => some w18)
set_option maxHeartbeats 4000000 in
set_option maxRecDepth 100000 in
theorem r_X8_highest_b0 (v0 : Nat) (v1 : Nat) (h : Hp) {x : Cx} {r : Int32} (e : F_X8_highest_b0 v0 v1 h = some r) (hF : Fin9 M_X8_highest x (some .int) (some (.int r)) h) : V M_X8_highest x 0 0 [(0, .ref v0), (1, .ref v1)] [] h 0 0 := by
  unfold F_X8_highest_b0 at e
  refine V_iconst (pc := 0) (v := (0 : Int32)) dX8_highest_0 (by decide) ?_
  refine V_istore_n (pc := 1) (i := 2) (lv' := [(2, .int (0 : Int32)), (0, .ref v0), (1, .ref v1)]) dX8_highest_1 rfl (by decide) rfl ?_
  refine V_iconst (pc := 2) (v := (0 : Int32)) dX8_highest_2 (by decide) ?_
  refine V_istore_n (pc := 3) (i := 3) (lv' := [(3, .int (0 : Int32)), (2, .int (0 : Int32)), (0, .ref v0), (1, .ref v1)]) dX8_highest_3 rfl (by decide) rfl ?_
  refine V_pick [2, 3, 1, 0] rfl ?_
  obtain ⟨y19, g20, e⟩ := ob_some e
  refine iter_V (P := fun z : Int32 × Int32 => V M_X8_highest x 0 4 [(0, .ref v0), (1, .ref v1), (2, .int z.1), (3, .int z.2)] [] h 0 0) (E := fun z : Int32 => V M_X8_highest x 0 54 [(2, .int z)] [] h 0 0) (fun z o e9 k1 k2 => r_X8_highest_l4 v0 v1 z.1 z.2 h e9 (fun z hz9 => k1 z hz9) (fun z hz9 => k2 _ hz9)) _ _ _ g20 ?_
  clear g20
  obtain ⟨w18, rfl⟩ : ∃ q, q = y19 := ⟨_, rfl⟩
  replace e : some w18 = some r := e
  show V M_X8_highest x 0 54 [(2, .int w18)] [] h 0 0
  refine V_iload_n (pc := 54) (i := 2) dX8_highest_54 rfl rfl ?_
  cases e
  exact V_iret (pc := 55) dX8_highest_55 hF
def F_X8_highest (v0 : Nat) (v1 : Nat) (h : Hp) : Option Int32 := F_X8_highest_b0 v0 v1 h
theorem c_X8_highest {l : Launch} (v0 : Nat) (v1 : Nat) (h : Hp) {r : Int32} (e : F_X8_highest v0 v1 h = some r) : Ct l yX8_highest M_X8_highest (some .int) 0 [.ref v0, .ref v1] h 0 0 (some (.int r)) h :=
  Ct_of rfl rfl (fun q => by cases q) (Nat.le_of_ble_eq_true rfl) (fun x _ hF => V_pick [0, 1] rfl (r_X8_highest_b0 v0 v1 h e hF))
theorem dX8_leastBeside_0 : decode cX8_leastBeside 0 = .ok (.iconst 0, 1) := by decide +kernel
theorem dX8_leastBeside_1 : decode cX8_leastBeside 1 = .ok (.istore_n 3, 1) := by decide +kernel
theorem dX8_leastBeside_2 : decode cX8_leastBeside 2 = .ok (.iconst 0, 1) := by decide +kernel
theorem dX8_leastBeside_3 : decode cX8_leastBeside 3 = .ok (.istore 4, 2) := by decide +kernel
theorem dX8_leastBeside_5 : decode cX8_leastBeside 5 = .ok (.iload 4, 2) := by decide +kernel
theorem dX8_leastBeside_7 : decode cX8_leastBeside 7 = .ok (.aload_n 0, 1) := by decide +kernel
theorem dX8_leastBeside_8 : decode cX8_leastBeside 8 = .ok (.getfield 9, 3) := by decide +kernel
theorem dX8_leastBeside_11 : decode cX8_leastBeside 11 = .ok (.if_icmp .ge 35, 3) := by decide +kernel
theorem dX8_leastBeside_14 : decode cX8_leastBeside 14 = .ok (.iload 4, 2) := by decide +kernel
theorem dX8_leastBeside_16 : decode cX8_leastBeside 16 = .ok (.iload_n 1, 1) := by decide +kernel
theorem dX8_leastBeside_17 : decode cX8_leastBeside 17 = .ok (.if_icmp .eq 23, 3) := by decide +kernel
theorem dX8_leastBeside_20 : decode cX8_leastBeside 20 = .ok (.iload_n 3, 1) := by decide +kernel
theorem dX8_leastBeside_21 : decode cX8_leastBeside 21 = .ok (.aload_n 0, 1) := by decide +kernel
theorem dX8_leastBeside_22 : decode cX8_leastBeside 22 = .ok (.getfield 15, 3) := by decide +kernel
theorem dX8_leastBeside_25 : decode cX8_leastBeside 25 = .ok (.iload 4, 2) := by decide +kernel
theorem dX8_leastBeside_27 : decode cX8_leastBeside 27 = .ok (.iaload, 1) := by decide +kernel
theorem dX8_leastBeside_28 : decode cX8_leastBeside 28 = .ok (.aload_n 2, 1) := by decide +kernel
theorem dX8_leastBeside_29 : decode cX8_leastBeside 29 = .ok (.aload_n 0, 1) := by decide +kernel
theorem dX8_leastBeside_30 : decode cX8_leastBeside 30 = .ok (.getfield 22, 3) := by decide +kernel
theorem dX8_leastBeside_33 : decode cX8_leastBeside 33 = .ok (.iload 4, 2) := by decide +kernel
theorem dX8_leastBeside_35 : decode cX8_leastBeside 35 = .ok (.iaload, 1) := by decide +kernel
theorem dX8_leastBeside_36 : decode cX8_leastBeside 36 = .ok (.iaload, 1) := by decide +kernel
theorem dX8_leastBeside_37 : decode cX8_leastBeside 37 = .ok (.imul, 1) := by decide +kernel
theorem dX8_leastBeside_38 : decode cX8_leastBeside 38 = .ok (.iadd, 1) := by decide +kernel
theorem dX8_leastBeside_39 : decode cX8_leastBeside 39 = .ok (.istore_n 3, 1) := by decide +kernel
theorem dX8_leastBeside_40 : decode cX8_leastBeside 40 = .ok (.iinc 4 1, 3) := by decide +kernel
theorem dX8_leastBeside_43 : decode cX8_leastBeside 43 = .ok (.goto (-38), 3) := by decide +kernel
theorem dX8_leastBeside_46 : decode cX8_leastBeside 46 = .ok (.iload_n 3, 1) := by decide +kernel
theorem dX8_leastBeside_47 : decode cX8_leastBeside 47 = .ok (.ireturn, 1) := by decide +kernel
set_option maxRecDepth 100000 in
def F_X8_leastBeside_b40 (v0 : Nat) (v1 : Int32) (v2 : Nat) (v3 : Int32) (v4 : Int32) (h : Hp) : Option ((Int32 × Int32) ⊕ Int32) :=
  some (.inl (v3, v4 + (1 : Int32)))
set_option maxHeartbeats 4000000 in
set_option maxRecDepth 100000 in
theorem r_X8_leastBeside_b40 (v0 : Nat) (v1 : Int32) (v2 : Nat) (v3 : Int32) (v4 : Int32) (h : Hp) {x : Cx} {o : ((Int32 × Int32) ⊕ Int32)} (e : F_X8_leastBeside_b40 v0 v1 v2 v3 v4 h = some o) (kI : ∀ z, o = .inl z → V M_X8_leastBeside x 0 5 [(0, .ref v0), (1, .int v1), (2, .ref v2), (3, .int z.1), (4, .int z.2)] [] h 0 0) (kE46 : ∀ z : Int32, o = .inr z → V M_X8_leastBeside x 0 46 [(3, .int z)] [] h 0 0) : V M_X8_leastBeside x 0 40 [(0, .ref v0), (1, .int v1), (2, .ref v2), (3, .int v3), (4, .int v4)] [] h 0 0 := by
  unfold F_X8_leastBeside_b40 at e
  refine V_iinc (pc := 40) (i := 4) (u := v4 + (1 : Int32)) (lv' := [(4, .int (v4 + (1 : Int32))), (0, .ref v0), (1, .int v1), (2, .ref v2), (3, .int v3)]) dX8_leastBeside_40 rfl rfl (by decide) rfl ?_
  refine V_goto (pc := 43) (tgt := 5) dX8_leastBeside_43 (by decide) ?_
  cases e
  exact V_pick [1, 2, 3, 4, 0] rfl (kI _ rfl)
set_option maxRecDepth 100000 in
def F_X8_leastBeside_l5 (v0 : Nat) (v1 : Int32) (v2 : Nat) (v3 : Int32) (v4 : Int32) (h : Hp) : Option ((Int32 × Int32) ⊕ Int32) :=
  gd (decide (kd h v0 = 7)) <| (if (zI h v0 0) ≤ v4 then some (.inr v3) else (if v4 = v1 then F_X8_leastBeside_b40 v0 v1 v2 v3 v4 h else ob (zR h v0 1) fun q2 => gd (decide (kd h q2 = 13)) <| gd (ix v4 (zl h q2)) <| ob (zR h v0 3) fun q6 => gd (decide (kd h q6 = 13)) <| gd (ix v4 (zl h q6)) <| gd (decide (kd h v2 = 13)) <| gd (ix (zI h q6 (v4).toNatClampNeg) (zl h v2)) <| F_X8_leastBeside_b40 v0 v1 v2 (v3 + ((zI h q2 (v4).toNatClampNeg) * (zI h v2 (zI h q6 (v4).toNatClampNeg).toNatClampNeg))) v4 h))
set_option maxHeartbeats 4000000 in
set_option maxRecDepth 100000 in
theorem r_X8_leastBeside_l5 (v0 : Nat) (v1 : Int32) (v2 : Nat) (v3 : Int32) (v4 : Int32) (h : Hp) {x : Cx} {o : ((Int32 × Int32) ⊕ Int32)} (e : F_X8_leastBeside_l5 v0 v1 v2 v3 v4 h = some o) (kI : ∀ z, o = .inl z → V M_X8_leastBeside x 0 5 [(0, .ref v0), (1, .int v1), (2, .ref v2), (3, .int z.1), (4, .int z.2)] [] h 0 0) (kE46 : ∀ z : Int32, o = .inr z → V M_X8_leastBeside x 0 46 [(3, .int z)] [] h 0 0) : V M_X8_leastBeside x 0 5 [(0, .ref v0), (1, .int v1), (2, .ref v2), (3, .int v3), (4, .int v4)] [] h 0 0 := by
  unfold F_X8_leastBeside_l5 at e
  refine V_iload (pc := 5) (i := 4) dX8_leastBeside_5 rfl ?_
  refine V_aload_n (pc := 7) (i := 0) dX8_leastBeside_7 rfl rfl ?_
  obtain ⟨g1, e⟩ := gd_some e
  refine V_getI (pc := 8) (ci := 7) (k := 0) dX8_leastBeside_8 fl_X8_9 rfl (of_decide_eq_true g1) ?_
  refine V_icmp_ge (pc := 11) (tgt := 46) dX8_leastBeside_11 (by decide) (fun c13 => ?_) (fun c13 => ?_)
  · rw [if_pos c13] at e
    cases e
    exact V_pick [3] rfl (kE46 _ rfl)
  · rw [if_neg c13] at e
    refine V_pick [0, 1, 2, 3, 4] rfl ?_
    refine V_iload (pc := 14) (i := 4) dX8_leastBeside_14 rfl ?_
    refine V_iload_n (pc := 16) (i := 1) dX8_leastBeside_16 rfl rfl ?_
    refine V_icmp_eq (pc := 17) (tgt := 40) dX8_leastBeside_17 (by decide) (fun c12 => ?_) (fun c12 => ?_)
    · rw [if_pos c12] at e
      exact V_pick [0, 1, 2, 3, 4] rfl (r_X8_leastBeside_b40 v0 v1 v2 v3 v4 h e kI kE46)
    · rw [if_neg c12] at e
      refine V_pick [0, 1, 2, 3, 4] rfl ?_
      refine V_iload_n (pc := 20) (i := 3) dX8_leastBeside_20 rfl rfl ?_
      refine V_aload_n (pc := 21) (i := 0) dX8_leastBeside_21 rfl rfl ?_
      obtain ⟨q2, g3, e⟩ := ob_some e
      refine V_getR (pc := 22) (ci := 7) (k := 1) (b := q2) dX8_leastBeside_22 fl_X8_15 rfl (of_decide_eq_true g1) g3 ?_
      refine V_iload (pc := 25) (i := 4) dX8_leastBeside_25 rfl ?_
      obtain ⟨g4, e⟩ := gd_some e
      obtain ⟨g5, e⟩ := gd_some e
      refine V_iald (pc := 27) dX8_leastBeside_27 (of_decide_eq_true g4) (ix_in g5) ?_
      refine V_aload_n (pc := 28) (i := 2) dX8_leastBeside_28 rfl rfl ?_
      refine V_aload_n (pc := 29) (i := 0) dX8_leastBeside_29 rfl rfl ?_
      obtain ⟨q6, g7, e⟩ := ob_some e
      refine V_getR (pc := 30) (ci := 7) (k := 3) (b := q6) dX8_leastBeside_30 fl_X8_22 rfl (of_decide_eq_true g1) g7 ?_
      refine V_iload (pc := 33) (i := 4) dX8_leastBeside_33 rfl ?_
      obtain ⟨g8, e⟩ := gd_some e
      obtain ⟨g9, e⟩ := gd_some e
      refine V_iald (pc := 35) dX8_leastBeside_35 (of_decide_eq_true g8) (ix_in g9) ?_
      obtain ⟨g10, e⟩ := gd_some e
      obtain ⟨g11, e⟩ := gd_some e
      refine V_iald (pc := 36) dX8_leastBeside_36 (of_decide_eq_true g10) (ix_in g11) ?_
      refine V_imul (pc := 37) dX8_leastBeside_37 ?_
      refine V_iadd (pc := 38) dX8_leastBeside_38 ?_
      refine V_istore_n (pc := 39) (i := 3) (lv' := [(3, .int (v3 + ((zI h q2 (v4).toNatClampNeg) * (zI h v2 (zI h q6 (v4).toNatClampNeg).toNatClampNeg)))), (0, .ref v0), (1, .int v1), (2, .ref v2), (4, .int v4)]) dX8_leastBeside_39 rfl (by decide) rfl ?_
      exact V_pick [1, 2, 3, 0, 4] rfl (r_X8_leastBeside_b40 v0 v1 v2 (v3 + ((zI h q2 (v4).toNatClampNeg) * (zI h v2 (zI h q6 (v4).toNatClampNeg).toNatClampNeg))) v4 h e kI kE46)
set_option maxRecDepth 100000 in
def F_X8_leastBeside_b0 (v0 : Nat) (v1 : Int32) (v2 : Nat) (h : Hp) : Option Int32 :=
  ob (iter (fun z : Int32 × Int32 => F_X8_leastBeside_l5 v0 v1 v2 z.1 z.2 h) FU ((0 : Int32), (0 : Int32))) (fun w14 => some w14)
set_option maxHeartbeats 4000000 in
set_option maxRecDepth 100000 in
theorem r_X8_leastBeside_b0 (v0 : Nat) (v1 : Int32) (v2 : Nat) (h : Hp) {x : Cx} {r : Int32} (e : F_X8_leastBeside_b0 v0 v1 v2 h = some r) (hF : Fin9 M_X8_leastBeside x (some .int) (some (.int r)) h) : V M_X8_leastBeside x 0 0 [(0, .ref v0), (1, .int v1), (2, .ref v2)] [] h 0 0 := by
  unfold F_X8_leastBeside_b0 at e
  refine V_iconst (pc := 0) (v := (0 : Int32)) dX8_leastBeside_0 (by decide) ?_
  refine V_istore_n (pc := 1) (i := 3) (lv' := [(3, .int (0 : Int32)), (0, .ref v0), (1, .int v1), (2, .ref v2)]) dX8_leastBeside_1 rfl (by decide) rfl ?_
  refine V_iconst (pc := 2) (v := (0 : Int32)) dX8_leastBeside_2 (by decide) ?_
  refine V_istore (pc := 3) (i := 4) (lv' := [(4, .int (0 : Int32)), (3, .int (0 : Int32)), (0, .ref v0), (1, .int v1), (2, .ref v2)]) dX8_leastBeside_3 (by decide) rfl ?_
  refine V_pick [2, 3, 4, 1, 0] rfl ?_
  obtain ⟨y15, g16, e⟩ := ob_some e
  refine iter_V (P := fun z : Int32 × Int32 => V M_X8_leastBeside x 0 5 [(0, .ref v0), (1, .int v1), (2, .ref v2), (3, .int z.1), (4, .int z.2)] [] h 0 0) (E := fun z : Int32 => V M_X8_leastBeside x 0 46 [(3, .int z)] [] h 0 0) (fun z o e9 k1 k2 => r_X8_leastBeside_l5 v0 v1 v2 z.1 z.2 h e9 (fun z hz9 => k1 z hz9) (fun z hz9 => k2 _ hz9)) _ _ _ g16 ?_
  clear g16
  obtain ⟨w14, rfl⟩ : ∃ q, q = y15 := ⟨_, rfl⟩
  replace e : some w14 = some r := e
  show V M_X8_leastBeside x 0 46 [(3, .int w14)] [] h 0 0
  refine V_iload_n (pc := 46) (i := 3) dX8_leastBeside_46 rfl rfl ?_
  cases e
  exact V_iret (pc := 47) dX8_leastBeside_47 hF
def F_X8_leastBeside (v0 : Nat) (v1 : Int32) (v2 : Nat) (h : Hp) : Option Int32 := F_X8_leastBeside_b0 v0 v1 v2 h
theorem c_X8_leastBeside {l : Launch} (v0 : Nat) (v1 : Int32) (v2 : Nat) (h : Hp) {r : Int32} (e : F_X8_leastBeside v0 v1 v2 h = some r) : Ct l yX8_leastBeside M_X8_leastBeside (some .int) 0 [.ref v0, .int v1, .ref v2] h 0 0 (some (.int r)) h :=
  Ct_of rfl rfl (fun q => by cases q) (Nat.le_of_ble_eq_true rfl) (fun x _ hF => V_pick [0, 1, 2] rfl (r_X8_leastBeside_b0 v0 v1 v2 h e hF))
theorem dX8_nextRoom_0 : decode cX8_nextRoom 0 = .ok (.iconst (-1), 1) := by decide +kernel
theorem dX8_nextRoom_1 : decode cX8_nextRoom 1 = .ok (.istore 5, 2) := by decide +kernel
theorem dX8_nextRoom_3 : decode cX8_nextRoom 3 = .ok (.iconst 0, 1) := by decide +kernel
theorem dX8_nextRoom_4 : decode cX8_nextRoom 4 = .ok (.istore 6, 2) := by decide +kernel
theorem dX8_nextRoom_6 : decode cX8_nextRoom 6 = .ok (.iload 6, 2) := by decide +kernel
theorem dX8_nextRoom_8 : decode cX8_nextRoom 8 = .ok (.iload 4, 2) := by decide +kernel
theorem dX8_nextRoom_10 : decode cX8_nextRoom 10 = .ok (.if_icmp .ge 68, 3) := by decide +kernel
theorem dX8_nextRoom_13 : decode cX8_nextRoom 13 = .ok (.aload_n 2, 1) := by decide +kernel
theorem dX8_nextRoom_14 : decode cX8_nextRoom 14 = .ok (.iload 6, 2) := by decide +kernel
theorem dX8_nextRoom_16 : decode cX8_nextRoom 16 = .ok (.iaload, 1) := by decide +kernel
theorem dX8_nextRoom_17 : decode cX8_nextRoom 17 = .ok (.aload_n 2, 1) := by decide +kernel
theorem dX8_nextRoom_18 : decode cX8_nextRoom 18 = .ok (.iload_n 0, 1) := by decide +kernel
theorem dX8_nextRoom_19 : decode cX8_nextRoom 19 = .ok (.iaload, 1) := by decide +kernel
theorem dX8_nextRoom_20 : decode cX8_nextRoom 20 = .ok (.if_icmp .ne 20, 3) := by decide +kernel
theorem dX8_nextRoom_23 : decode cX8_nextRoom 23 = .ok (.iload_n 3, 1) := by decide +kernel
theorem dX8_nextRoom_24 : decode cX8_nextRoom 24 = .ok (.aload_n 1, 1) := by decide +kernel
theorem dX8_nextRoom_25 : decode cX8_nextRoom 25 = .ok (.iload 6, 2) := by decide +kernel
theorem dX8_nextRoom_27 : decode cX8_nextRoom 27 = .ok (.iaload, 1) := by decide +kernel
theorem dX8_nextRoom_28 : decode cX8_nextRoom 28 = .ok (.aload_n 1, 1) := by decide +kernel
theorem dX8_nextRoom_29 : decode cX8_nextRoom 29 = .ok (.iload_n 0, 1) := by decide +kernel
theorem dX8_nextRoom_30 : decode cX8_nextRoom 30 = .ok (.iaload, 1) := by decide +kernel
theorem dX8_nextRoom_31 : decode cX8_nextRoom 31 = .ok (.isub, 1) := by decide +kernel
theorem dX8_nextRoom_32 : decode cX8_nextRoom 32 = .ok (.imul, 1) := by decide +kernel
theorem dX8_nextRoom_33 : decode cX8_nextRoom 33 = .ok (.ifCond .le 7, 3) := by decide +kernel
theorem dX8_nextRoom_36 : decode cX8_nextRoom 36 = .ok (.iconst 1, 1) := by decide +kernel
theorem dX8_nextRoom_37 : decode cX8_nextRoom 37 = .ok (.goto 4, 3) := by decide +kernel
theorem dX8_nextRoom_40 : decode cX8_nextRoom 40 = .ok (.iconst 0, 1) := by decide +kernel
theorem dX8_nextRoom_41 : decode cX8_nextRoom 41 = .ok (.istore 7, 2) := by decide +kernel
theorem dX8_nextRoom_43 : decode cX8_nextRoom 43 = .ok (.iload 7, 2) := by decide +kernel
theorem dX8_nextRoom_45 : decode cX8_nextRoom 45 = .ok (.ifCond .eq 27, 3) := by decide +kernel
theorem dX8_nextRoom_48 : decode cX8_nextRoom 48 = .ok (.iload 5, 2) := by decide +kernel
theorem dX8_nextRoom_50 : decode cX8_nextRoom 50 = .ok (.iconst (-1), 1) := by decide +kernel
theorem dX8_nextRoom_51 : decode cX8_nextRoom 51 = .ok (.if_icmp .eq 17, 3) := by decide +kernel
theorem dX8_nextRoom_54 : decode cX8_nextRoom 54 = .ok (.iload_n 3, 1) := by decide +kernel
theorem dX8_nextRoom_55 : decode cX8_nextRoom 55 = .ok (.aload_n 1, 1) := by decide +kernel
theorem dX8_nextRoom_56 : decode cX8_nextRoom 56 = .ok (.iload 5, 2) := by decide +kernel
theorem dX8_nextRoom_58 : decode cX8_nextRoom 58 = .ok (.iaload, 1) := by decide +kernel
theorem dX8_nextRoom_59 : decode cX8_nextRoom 59 = .ok (.aload_n 1, 1) := by decide +kernel
theorem dX8_nextRoom_60 : decode cX8_nextRoom 60 = .ok (.iload 6, 2) := by decide +kernel
theorem dX8_nextRoom_62 : decode cX8_nextRoom 62 = .ok (.iaload, 1) := by decide +kernel
theorem dX8_nextRoom_63 : decode cX8_nextRoom 63 = .ok (.isub, 1) := by decide +kernel
theorem dX8_nextRoom_64 : decode cX8_nextRoom 64 = .ok (.imul, 1) := by decide +kernel
theorem dX8_nextRoom_65 : decode cX8_nextRoom 65 = .ok (.ifCond .le 7, 3) := by decide +kernel
theorem dX8_nextRoom_68 : decode cX8_nextRoom 68 = .ok (.iload 6, 2) := by decide +kernel
theorem dX8_nextRoom_70 : decode cX8_nextRoom 70 = .ok (.istore 5, 2) := by decide +kernel
theorem dX8_nextRoom_72 : decode cX8_nextRoom 72 = .ok (.iinc 6 1, 3) := by decide +kernel
theorem dX8_nextRoom_75 : decode cX8_nextRoom 75 = .ok (.goto (-69), 3) := by decide +kernel
theorem dX8_nextRoom_78 : decode cX8_nextRoom 78 = .ok (.iload 5, 2) := by decide +kernel
theorem dX8_nextRoom_80 : decode cX8_nextRoom 80 = .ok (.ireturn, 1) := by decide +kernel
set_option maxRecDepth 100000 in
def F_X8_nextRoom_b72 (v0 : Int32) (v1 : Nat) (v2 : Nat) (v3 : Int32) (v4 : Int32) (v5 : Int32) (v6 : Int32) (h : Hp) : Option ((Int32 × Int32) ⊕ Int32) :=
  some (.inl (v5, v6 + (1 : Int32)))
set_option maxHeartbeats 4000000 in
set_option maxRecDepth 100000 in
theorem r_X8_nextRoom_b72 (v0 : Int32) (v1 : Nat) (v2 : Nat) (v3 : Int32) (v4 : Int32) (v5 : Int32) (v6 : Int32) (h : Hp) {x : Cx} {o : ((Int32 × Int32) ⊕ Int32)} (e : F_X8_nextRoom_b72 v0 v1 v2 v3 v4 v5 v6 h = some o) (kI : ∀ z, o = .inl z → V M_X8_nextRoom x 0 6 [(0, .int v0), (1, .ref v1), (2, .ref v2), (3, .int v3), (4, .int v4), (5, .int z.1), (6, .int z.2)] [] h 0 0) (kE78 : ∀ z : Int32, o = .inr z → V M_X8_nextRoom x 0 78 [(5, .int z)] [] h 0 0) : V M_X8_nextRoom x 0 72 [(0, .int v0), (1, .ref v1), (2, .ref v2), (3, .int v3), (4, .int v4), (5, .int v5), (6, .int v6)] [] h 0 0 := by
  unfold F_X8_nextRoom_b72 at e
  refine V_iinc (pc := 72) (i := 6) (u := v6 + (1 : Int32)) (lv' := [(6, .int (v6 + (1 : Int32))), (0, .int v0), (1, .ref v1), (2, .ref v2), (3, .int v3), (4, .int v4), (5, .int v5)]) dX8_nextRoom_72 rfl rfl (by decide) rfl ?_
  refine V_goto (pc := 75) (tgt := 6) dX8_nextRoom_75 (by decide) ?_
  cases e
  exact V_pick [1, 2, 3, 4, 5, 6, 0] rfl (kI _ rfl)
set_option maxRecDepth 100000 in
def F_X8_nextRoom_b68 (v0 : Int32) (v1 : Nat) (v2 : Nat) (v3 : Int32) (v4 : Int32) (v6 : Int32) (h : Hp) : Option ((Int32 × Int32) ⊕ Int32) :=
  F_X8_nextRoom_b72 v0 v1 v2 v3 v4 v6 v6 h
set_option maxHeartbeats 4000000 in
set_option maxRecDepth 100000 in
theorem r_X8_nextRoom_b68 (v0 : Int32) (v1 : Nat) (v2 : Nat) (v3 : Int32) (v4 : Int32) (v6 : Int32) (h : Hp) {x : Cx} {o : ((Int32 × Int32) ⊕ Int32)} (e : F_X8_nextRoom_b68 v0 v1 v2 v3 v4 v6 h = some o) (kI : ∀ z, o = .inl z → V M_X8_nextRoom x 0 6 [(0, .int v0), (1, .ref v1), (2, .ref v2), (3, .int v3), (4, .int v4), (5, .int z.1), (6, .int z.2)] [] h 0 0) (kE78 : ∀ z : Int32, o = .inr z → V M_X8_nextRoom x 0 78 [(5, .int z)] [] h 0 0) : V M_X8_nextRoom x 0 68 [(0, .int v0), (1, .ref v1), (2, .ref v2), (3, .int v3), (4, .int v4), (6, .int v6)] [] h 0 0 := by
  unfold F_X8_nextRoom_b68 at e
  refine V_iload (pc := 68) (i := 6) dX8_nextRoom_68 rfl ?_
  refine V_istore (pc := 70) (i := 5) (lv' := [(5, .int v6), (0, .int v0), (1, .ref v1), (2, .ref v2), (3, .int v3), (4, .int v4), (6, .int v6)]) dX8_nextRoom_70 (by decide) rfl ?_
  exact V_pick [1, 2, 3, 4, 5, 0, 6] rfl (r_X8_nextRoom_b72 v0 v1 v2 v3 v4 v6 v6 h e kI kE78)
set_option maxRecDepth 100000 in
def F_X8_nextRoom_b41 (v0 : Int32) (v1 : Nat) (v2 : Nat) (v3 : Int32) (v4 : Int32) (v5 : Int32) (v6 : Int32) (t0 : Int32) (h : Hp) : Option ((Int32 × Int32) ⊕ Int32) :=
  (if t0 = 0 then F_X8_nextRoom_b72 v0 v1 v2 v3 v4 v5 v6 h else (if v5 = (-1 : Int32) then F_X8_nextRoom_b68 v0 v1 v2 v3 v4 v6 h else gd (decide (kd h v1 = 13)) <| gd (ix v5 (zl h v1)) <| gd (ix v6 (zl h v1)) <| (if (v3 * ((zI h v1 (v5).toNatClampNeg) - (zI h v1 (v6).toNatClampNeg))) ≤ 0 then F_X8_nextRoom_b72 v0 v1 v2 v3 v4 v5 v6 h else F_X8_nextRoom_b68 v0 v1 v2 v3 v4 v6 h)))
set_option maxHeartbeats 4000000 in
set_option maxRecDepth 100000 in
theorem r_X8_nextRoom_b41 (v0 : Int32) (v1 : Nat) (v2 : Nat) (v3 : Int32) (v4 : Int32) (v5 : Int32) (v6 : Int32) (t0 : Int32) (h : Hp) {x : Cx} {o : ((Int32 × Int32) ⊕ Int32)} (e : F_X8_nextRoom_b41 v0 v1 v2 v3 v4 v5 v6 t0 h = some o) (kI : ∀ z, o = .inl z → V M_X8_nextRoom x 0 6 [(0, .int v0), (1, .ref v1), (2, .ref v2), (3, .int v3), (4, .int v4), (5, .int z.1), (6, .int z.2)] [] h 0 0) (kE78 : ∀ z : Int32, o = .inr z → V M_X8_nextRoom x 0 78 [(5, .int z)] [] h 0 0) : V M_X8_nextRoom x 0 41 [(0, .int v0), (1, .ref v1), (2, .ref v2), (3, .int v3), (4, .int v4), (5, .int v5), (6, .int v6)] [.int t0] h 0 0 := by
  unfold F_X8_nextRoom_b41 at e
  refine V_istore (pc := 41) (i := 7) (lv' := [(7, .int t0), (0, .int v0), (1, .ref v1), (2, .ref v2), (3, .int v3), (4, .int v4), (5, .int v5), (6, .int v6)]) dX8_nextRoom_41 (by decide) rfl ?_
  refine V_iload (pc := 43) (i := 7) dX8_nextRoom_43 rfl ?_
  refine V_if_eq (pc := 45) (tgt := 72) dX8_nextRoom_45 (by decide) (fun c9 => ?_) (fun c9 => ?_)
  · rw [if_pos c9] at e
    exact V_pick [1, 2, 3, 4, 5, 6, 7] rfl (r_X8_nextRoom_b72 v0 v1 v2 v3 v4 v5 v6 h e kI kE78)
  · rw [if_neg c9] at e
    refine V_pick [1, 2, 3, 4, 5, 6, 7] rfl ?_
    refine V_iload (pc := 48) (i := 5) dX8_nextRoom_48 rfl ?_
    refine V_iconst (pc := 50) (v := (-1 : Int32)) dX8_nextRoom_50 (by decide) ?_
    refine V_icmp_eq (pc := 51) (tgt := 68) dX8_nextRoom_51 (by decide) (fun c8 => ?_) (fun c8 => ?_)
    · rw [if_pos c8] at e
      exact V_pick [0, 1, 2, 3, 4, 6] rfl (r_X8_nextRoom_b68 v0 v1 v2 v3 v4 v6 h e kI kE78)
    · rw [if_neg c8] at e
      refine V_pick [0, 1, 2, 3, 4, 5, 6] rfl ?_
      refine V_iload_n (pc := 54) (i := 3) dX8_nextRoom_54 rfl rfl ?_
      refine V_aload_n (pc := 55) (i := 1) dX8_nextRoom_55 rfl rfl ?_
      refine V_iload (pc := 56) (i := 5) dX8_nextRoom_56 rfl ?_
      obtain ⟨g4, e⟩ := gd_some e
      obtain ⟨g5, e⟩ := gd_some e
      refine V_iald (pc := 58) dX8_nextRoom_58 (of_decide_eq_true g4) (ix_in g5) ?_
      refine V_aload_n (pc := 59) (i := 1) dX8_nextRoom_59 rfl rfl ?_
      refine V_iload (pc := 60) (i := 6) dX8_nextRoom_60 rfl ?_
      obtain ⟨g6, e⟩ := gd_some e
      refine V_iald (pc := 62) dX8_nextRoom_62 (of_decide_eq_true g4) (ix_in g6) ?_
      refine V_isub (pc := 63) dX8_nextRoom_63 ?_
      refine V_imul (pc := 64) dX8_nextRoom_64 ?_
      refine V_if_le (pc := 65) (tgt := 72) dX8_nextRoom_65 (by decide) (fun c7 => ?_) (fun c7 => ?_)
      · rw [if_pos c7] at e
        exact V_pick [0, 1, 2, 3, 4, 5, 6] rfl (r_X8_nextRoom_b72 v0 v1 v2 v3 v4 v5 v6 h e kI kE78)
      · rw [if_neg c7] at e
        exact V_pick [0, 1, 2, 3, 4, 6] rfl (r_X8_nextRoom_b68 v0 v1 v2 v3 v4 v6 h e kI kE78)
set_option maxRecDepth 100000 in
def F_X8_nextRoom_b40 (v0 : Int32) (v1 : Nat) (v2 : Nat) (v3 : Int32) (v4 : Int32) (v5 : Int32) (v6 : Int32) (h : Hp) : Option ((Int32 × Int32) ⊕ Int32) :=
  F_X8_nextRoom_b41 v0 v1 v2 v3 v4 v5 v6 (0 : Int32) h
set_option maxHeartbeats 4000000 in
set_option maxRecDepth 100000 in
theorem r_X8_nextRoom_b40 (v0 : Int32) (v1 : Nat) (v2 : Nat) (v3 : Int32) (v4 : Int32) (v5 : Int32) (v6 : Int32) (h : Hp) {x : Cx} {o : ((Int32 × Int32) ⊕ Int32)} (e : F_X8_nextRoom_b40 v0 v1 v2 v3 v4 v5 v6 h = some o) (kI : ∀ z, o = .inl z → V M_X8_nextRoom x 0 6 [(0, .int v0), (1, .ref v1), (2, .ref v2), (3, .int v3), (4, .int v4), (5, .int z.1), (6, .int z.2)] [] h 0 0) (kE78 : ∀ z : Int32, o = .inr z → V M_X8_nextRoom x 0 78 [(5, .int z)] [] h 0 0) : V M_X8_nextRoom x 0 40 [(0, .int v0), (1, .ref v1), (2, .ref v2), (3, .int v3), (4, .int v4), (5, .int v5), (6, .int v6)] [] h 0 0 := by
  unfold F_X8_nextRoom_b40 at e
  refine V_iconst (pc := 40) (v := (0 : Int32)) dX8_nextRoom_40 (by decide) ?_
  exact V_pick [0, 1, 2, 3, 4, 5, 6] rfl (r_X8_nextRoom_b41 v0 v1 v2 v3 v4 v5 v6 (0 : Int32) h e kI kE78)
set_option maxRecDepth 100000 in
def F_X8_nextRoom_l6 (v0 : Int32) (v1 : Nat) (v2 : Nat) (v3 : Int32) (v4 : Int32) (v5 : Int32) (v6 : Int32) (h : Hp) : Option ((Int32 × Int32) ⊕ Int32) :=
  (if v4 ≤ v6 then some (.inr v5) else gd (decide (kd h v2 = 13)) <| gd (ix v6 (zl h v2)) <| gd (ix v0 (zl h v2)) <| (if (zI h v2 (v6).toNatClampNeg) = (zI h v2 (v0).toNatClampNeg) then gd (decide (kd h v1 = 13)) <| gd (ix v6 (zl h v1)) <| gd (ix v0 (zl h v1)) <| (if (v3 * ((zI h v1 (v6).toNatClampNeg) - (zI h v1 (v0).toNatClampNeg))) ≤ 0 then F_X8_nextRoom_b40 v0 v1 v2 v3 v4 v5 v6 h else F_X8_nextRoom_b41 v0 v1 v2 v3 v4 v5 v6 (1 : Int32) h) else F_X8_nextRoom_b40 v0 v1 v2 v3 v4 v5 v6 h))
set_option maxHeartbeats 4000000 in
set_option maxRecDepth 100000 in
theorem r_X8_nextRoom_l6 (v0 : Int32) (v1 : Nat) (v2 : Nat) (v3 : Int32) (v4 : Int32) (v5 : Int32) (v6 : Int32) (h : Hp) {x : Cx} {o : ((Int32 × Int32) ⊕ Int32)} (e : F_X8_nextRoom_l6 v0 v1 v2 v3 v4 v5 v6 h = some o) (kI : ∀ z, o = .inl z → V M_X8_nextRoom x 0 6 [(0, .int v0), (1, .ref v1), (2, .ref v2), (3, .int v3), (4, .int v4), (5, .int z.1), (6, .int z.2)] [] h 0 0) (kE78 : ∀ z : Int32, o = .inr z → V M_X8_nextRoom x 0 78 [(5, .int z)] [] h 0 0) : V M_X8_nextRoom x 0 6 [(0, .int v0), (1, .ref v1), (2, .ref v2), (3, .int v3), (4, .int v4), (5, .int v5), (6, .int v6)] [] h 0 0 := by
  unfold F_X8_nextRoom_l6 at e
  refine V_iload (pc := 6) (i := 6) dX8_nextRoom_6 rfl ?_
  refine V_iload (pc := 8) (i := 4) dX8_nextRoom_8 rfl ?_
  refine V_icmp_ge (pc := 10) (tgt := 78) dX8_nextRoom_10 (by decide) (fun c15 => ?_) (fun c15 => ?_)
  · rw [if_pos c15] at e
    cases e
    exact V_pick [5] rfl (kE78 _ rfl)
  · rw [if_neg c15] at e
    refine V_pick [0, 1, 2, 3, 4, 5, 6] rfl ?_
    refine V_aload_n (pc := 13) (i := 2) dX8_nextRoom_13 rfl rfl ?_
    refine V_iload (pc := 14) (i := 6) dX8_nextRoom_14 rfl ?_
    obtain ⟨g1, e⟩ := gd_some e
    obtain ⟨g2, e⟩ := gd_some e
    refine V_iald (pc := 16) dX8_nextRoom_16 (of_decide_eq_true g1) (ix_in g2) ?_
    refine V_aload_n (pc := 17) (i := 2) dX8_nextRoom_17 rfl rfl ?_
    refine V_iload_n (pc := 18) (i := 0) dX8_nextRoom_18 rfl rfl ?_
    obtain ⟨g3, e⟩ := gd_some e
    refine V_iald (pc := 19) dX8_nextRoom_19 (of_decide_eq_true g1) (ix_in g3) ?_
    refine V_icmp_ne (pc := 20) (tgt := 40) dX8_nextRoom_20 (by decide) (fun c14 => ?_) (fun c14 => ?_)
    · rw [if_neg c14] at e
      exact V_pick [0, 1, 2, 3, 4, 5, 6] rfl (r_X8_nextRoom_b40 v0 v1 v2 v3 v4 v5 v6 h e kI kE78)
    · rw [if_pos c14] at e
      refine V_pick [0, 1, 2, 3, 4, 5, 6] rfl ?_
      refine V_iload_n (pc := 23) (i := 3) dX8_nextRoom_23 rfl rfl ?_
      refine V_aload_n (pc := 24) (i := 1) dX8_nextRoom_24 rfl rfl ?_
      refine V_iload (pc := 25) (i := 6) dX8_nextRoom_25 rfl ?_
      obtain ⟨g10, e⟩ := gd_some e
      obtain ⟨g11, e⟩ := gd_some e
      refine V_iald (pc := 27) dX8_nextRoom_27 (of_decide_eq_true g10) (ix_in g11) ?_
      refine V_aload_n (pc := 28) (i := 1) dX8_nextRoom_28 rfl rfl ?_
      refine V_iload_n (pc := 29) (i := 0) dX8_nextRoom_29 rfl rfl ?_
      obtain ⟨g12, e⟩ := gd_some e
      refine V_iald (pc := 30) dX8_nextRoom_30 (of_decide_eq_true g10) (ix_in g12) ?_
      refine V_isub (pc := 31) dX8_nextRoom_31 ?_
      refine V_imul (pc := 32) dX8_nextRoom_32 ?_
      refine V_if_le (pc := 33) (tgt := 40) dX8_nextRoom_33 (by decide) (fun c13 => ?_) (fun c13 => ?_)
      · rw [if_pos c13] at e
        exact V_pick [0, 1, 2, 3, 4, 5, 6] rfl (r_X8_nextRoom_b40 v0 v1 v2 v3 v4 v5 v6 h e kI kE78)
      · rw [if_neg c13] at e
        refine V_pick [0, 1, 2, 3, 4, 5, 6] rfl ?_
        refine V_iconst (pc := 36) (v := (1 : Int32)) dX8_nextRoom_36 (by decide) ?_
        refine V_goto (pc := 37) (tgt := 41) dX8_nextRoom_37 (by decide) ?_
        exact V_pick [0, 1, 2, 3, 4, 5, 6] rfl (r_X8_nextRoom_b41 v0 v1 v2 v3 v4 v5 v6 (1 : Int32) h e kI kE78)
set_option maxRecDepth 100000 in
def F_X8_nextRoom_b0 (v0 : Int32) (v1 : Nat) (v2 : Nat) (v3 : Int32) (v4 : Int32) (h : Hp) : Option Int32 :=
  ob (iter (fun z : Int32 × Int32 => F_X8_nextRoom_l6 v0 v1 v2 v3 v4 z.1 z.2 h) FU ((-1 : Int32), (0 : Int32))) (fun w16 => some w16)
set_option maxHeartbeats 4000000 in
set_option maxRecDepth 100000 in
theorem r_X8_nextRoom_b0 (v0 : Int32) (v1 : Nat) (v2 : Nat) (v3 : Int32) (v4 : Int32) (h : Hp) {x : Cx} {r : Int32} (e : F_X8_nextRoom_b0 v0 v1 v2 v3 v4 h = some r) (hF : Fin9 M_X8_nextRoom x (some .int) (some (.int r)) h) : V M_X8_nextRoom x 0 0 [(0, .int v0), (1, .ref v1), (2, .ref v2), (3, .int v3), (4, .int v4)] [] h 0 0 := by
  unfold F_X8_nextRoom_b0 at e
  refine V_iconst (pc := 0) (v := (-1 : Int32)) dX8_nextRoom_0 (by decide) ?_
  refine V_istore (pc := 1) (i := 5) (lv' := [(5, .int (-1 : Int32)), (0, .int v0), (1, .ref v1), (2, .ref v2), (3, .int v3), (4, .int v4)]) dX8_nextRoom_1 (by decide) rfl ?_
  refine V_iconst (pc := 3) (v := (0 : Int32)) dX8_nextRoom_3 (by decide) ?_
  refine V_istore (pc := 4) (i := 6) (lv' := [(6, .int (0 : Int32)), (5, .int (-1 : Int32)), (0, .int v0), (1, .ref v1), (2, .ref v2), (3, .int v3), (4, .int v4)]) dX8_nextRoom_4 (by decide) rfl ?_
  refine V_pick [2, 3, 4, 5, 6, 1, 0] rfl ?_
  obtain ⟨y17, g18, e⟩ := ob_some e
  refine iter_V (P := fun z : Int32 × Int32 => V M_X8_nextRoom x 0 6 [(0, .int v0), (1, .ref v1), (2, .ref v2), (3, .int v3), (4, .int v4), (5, .int z.1), (6, .int z.2)] [] h 0 0) (E := fun z : Int32 => V M_X8_nextRoom x 0 78 [(5, .int z)] [] h 0 0) (fun z o e9 k1 k2 => r_X8_nextRoom_l6 v0 v1 v2 v3 v4 z.1 z.2 h e9 (fun z hz9 => k1 z hz9) (fun z hz9 => k2 _ hz9)) _ _ _ g18 ?_
  clear g18
  obtain ⟨w16, rfl⟩ : ∃ q, q = y17 := ⟨_, rfl⟩
  replace e : some w16 = some r := e
  show V M_X8_nextRoom x 0 78 [(5, .int w16)] [] h 0 0
  refine V_iload (pc := 78) (i := 5) dX8_nextRoom_78 rfl ?_
  cases e
  exact V_iret (pc := 80) dX8_nextRoom_80 hF
def F_X8_nextRoom (v0 : Int32) (v1 : Nat) (v2 : Nat) (v3 : Int32) (v4 : Int32) (h : Hp) : Option Int32 := F_X8_nextRoom_b0 v0 v1 v2 v3 v4 h
theorem c_X8_nextRoom {l : Launch} (v0 : Int32) (v1 : Nat) (v2 : Nat) (v3 : Int32) (v4 : Int32) (h : Hp) {r : Int32} (e : F_X8_nextRoom v0 v1 v2 v3 v4 h = some r) : Ct l yX8_nextRoom M_X8_nextRoom (some .int) 0 [.int v0, .ref v1, .ref v2, .int v3, .int v4] h 0 0 (some (.int r)) h :=
  Ct_of rfl rfl (fun q => by cases q) (Nat.le_of_ble_eq_true rfl) (fun x _ hF => V_pick [0, 1, 2, 3, 4] rfl (r_X8_nextRoom_b0 v0 v1 v2 v3 v4 h e hF))
theorem dX8_slideAll_0 : decode cX8_slideAll 0 = .ok (.iconst 0, 1) := by decide +kernel
theorem dX8_slideAll_1 : decode cX8_slideAll 1 = .ok (.istore 5, 2) := by decide +kernel
theorem dX8_slideAll_3 : decode cX8_slideAll 3 = .ok (.iconst 0, 1) := by decide +kernel
theorem dX8_slideAll_4 : decode cX8_slideAll 4 = .ok (.istore 6, 2) := by decide +kernel
theorem dX8_slideAll_6 : decode cX8_slideAll 6 = .ok (.iload 6, 2) := by decide +kernel
theorem dX8_slideAll_8 : decode cX8_slideAll 8 = .ok (.aload_n 0, 1) := by decide +kernel
theorem dX8_slideAll_9 : decode cX8_slideAll 9 = .ok (.getfield 9, 3) := by decide +kernel
theorem dX8_slideAll_12 : decode cX8_slideAll 12 = .ok (.if_icmp .ge 44, 3) := by decide +kernel
theorem dX8_slideAll_15 : decode cX8_slideAll 15 = .ok (.aload_n 0, 1) := by decide +kernel
theorem dX8_slideAll_16 : decode cX8_slideAll 16 = .ok (.getfield 22, 3) := by decide +kernel
theorem dX8_slideAll_19 : decode cX8_slideAll 19 = .ok (.iload 6, 2) := by decide +kernel
theorem dX8_slideAll_21 : decode cX8_slideAll 21 = .ok (.iaload, 1) := by decide +kernel
theorem dX8_slideAll_22 : decode cX8_slideAll 22 = .ok (.aload_n 1, 1) := by decide +kernel
theorem dX8_slideAll_23 : decode cX8_slideAll 23 = .ok (.aload_n 2, 1) := by decide +kernel
theorem dX8_slideAll_24 : decode cX8_slideAll 24 = .ok (.iload_n 3, 1) := by decide +kernel
theorem dX8_slideAll_25 : decode cX8_slideAll 25 = .ok (.iload 4, 2) := by decide +kernel
theorem dX8_slideAll_27 : decode cX8_slideAll 27 = .ok (.invokestatic 31, 3) := by decide +kernel
theorem dX8_slideAll_30 : decode cX8_slideAll 30 = .ok (.istore 7, 2) := by decide +kernel
theorem dX8_slideAll_32 : decode cX8_slideAll 32 = .ok (.iload 7, 2) := by decide +kernel
theorem dX8_slideAll_34 : decode cX8_slideAll 34 = .ok (.iconst (-1), 1) := by decide +kernel
theorem dX8_slideAll_35 : decode cX8_slideAll 35 = .ok (.if_icmp .eq 15, 3) := by decide +kernel
theorem dX8_slideAll_38 : decode cX8_slideAll 38 = .ok (.aload_n 0, 1) := by decide +kernel
theorem dX8_slideAll_39 : decode cX8_slideAll 39 = .ok (.getfield 22, 3) := by decide +kernel
theorem dX8_slideAll_42 : decode cX8_slideAll 42 = .ok (.iload 6, 2) := by decide +kernel
theorem dX8_slideAll_44 : decode cX8_slideAll 44 = .ok (.iload 7, 2) := by decide +kernel
theorem dX8_slideAll_46 : decode cX8_slideAll 46 = .ok (.iastore, 1) := by decide +kernel
theorem dX8_slideAll_47 : decode cX8_slideAll 47 = .ok (.iinc 5 1, 3) := by decide +kernel
theorem dX8_slideAll_50 : decode cX8_slideAll 50 = .ok (.iinc 6 1, 3) := by decide +kernel
theorem dX8_slideAll_53 : decode cX8_slideAll 53 = .ok (.goto (-47), 3) := by decide +kernel
theorem dX8_slideAll_56 : decode cX8_slideAll 56 = .ok (.iload 5, 2) := by decide +kernel
theorem dX8_slideAll_58 : decode cX8_slideAll 58 = .ok (.ireturn, 1) := by decide +kernel
set_option maxRecDepth 100000 in
def F_X8_slideAll_b50 (v0 : Nat) (v1 : Nat) (v2 : Nat) (v3 : Int32) (v4 : Int32) (v5 : Int32) (v6 : Int32) (h : Hp) : Option ((Int32 × Int32 × Hp) ⊕ (Int32 × Hp)) :=
  some (.inl (v5, v6 + (1 : Int32), h))
set_option maxHeartbeats 4000000 in
set_option maxRecDepth 100000 in
theorem r_X8_slideAll_b50 (v0 : Nat) (v1 : Nat) (v2 : Nat) (v3 : Int32) (v4 : Int32) (v5 : Int32) (v6 : Int32) (h : Hp) {x : Cx} {o : ((Int32 × Int32 × Hp) ⊕ (Int32 × Hp))} (e : F_X8_slideAll_b50 v0 v1 v2 v3 v4 v5 v6 h = some o) (kI : ∀ z, o = .inl z → V M_X8_slideAll x 1 6 [(0, .ref v0), (1, .ref v1), (2, .ref v2), (3, .int v3), (4, .int v4), (5, .int z.1), (6, .int z.2.1)] [] z.2.2 0 0) (kE56 : ∀ z : Int32 × Hp, o = .inr z → V M_X8_slideAll x 1 56 [(5, .int z.1)] [] z.2 0 0) : V M_X8_slideAll x 1 50 [(0, .ref v0), (1, .ref v1), (2, .ref v2), (3, .int v3), (4, .int v4), (5, .int v5), (6, .int v6)] [] h 0 0 := by
  unfold F_X8_slideAll_b50 at e
  refine V_iinc (pc := 50) (i := 6) (u := v6 + (1 : Int32)) (lv' := [(6, .int (v6 + (1 : Int32))), (0, .ref v0), (1, .ref v1), (2, .ref v2), (3, .int v3), (4, .int v4), (5, .int v5)]) dX8_slideAll_50 rfl rfl (by decide) rfl ?_
  refine V_goto (pc := 53) (tgt := 6) dX8_slideAll_53 (by decide) ?_
  cases e
  exact V_pick [1, 2, 3, 4, 5, 6, 0] rfl (kI _ rfl)
set_option maxRecDepth 100000 in
def F_X8_slideAll_l6 (v0 : Nat) (v1 : Nat) (v2 : Nat) (v3 : Int32) (v4 : Int32) (v5 : Int32) (v6 : Int32) (h : Hp) : Option ((Int32 × Int32 × Hp) ⊕ (Int32 × Hp)) :=
  gd (decide (kd h v0 = 7)) <| (if (zI h v0 0) ≤ v6 then some (.inr (v5, h)) else ob (zR h v0 3) fun q2 => gd (decide (kd h q2 = 13)) <| gd (ix v6 (zl h q2)) <| ob (F_X8_nextRoom (zI h q2 (v6).toNatClampNeg) v1 v2 v3 v4 h) fun r7 => (if r7 = (-1 : Int32) then F_X8_slideAll_b50 v0 v1 v2 v3 v4 v5 v6 h else ob (zR h v0 3) fun q8 => gd (decide (kd h q8 = 13)) <| gd (ix v6 (zl h q8)) <| F_X8_slideAll_b50 v0 v1 v2 v3 v4 (v5 + (1 : Int32)) v6 (setI h q8 (v6).toNatClampNeg r7)))
set_option maxHeartbeats 4000000 in
set_option maxRecDepth 100000 in
theorem r_X8_slideAll_l6 (v0 : Nat) (v1 : Nat) (v2 : Nat) (v3 : Int32) (v4 : Int32) (v5 : Int32) (v6 : Int32) (h : Hp) {x : Cx} {o : ((Int32 × Int32 × Hp) ⊕ (Int32 × Hp))} (e : F_X8_slideAll_l6 v0 v1 v2 v3 v4 v5 v6 h = some o) (kI : ∀ z, o = .inl z → V M_X8_slideAll x 1 6 [(0, .ref v0), (1, .ref v1), (2, .ref v2), (3, .int v3), (4, .int v4), (5, .int z.1), (6, .int z.2.1)] [] z.2.2 0 0) (kE56 : ∀ z : Int32 × Hp, o = .inr z → V M_X8_slideAll x 1 56 [(5, .int z.1)] [] z.2 0 0) : V M_X8_slideAll x 1 6 [(0, .ref v0), (1, .ref v1), (2, .ref v2), (3, .int v3), (4, .int v4), (5, .int v5), (6, .int v6)] [] h 0 0 := by
  unfold F_X8_slideAll_l6 at e
  refine V_iload (pc := 6) (i := 6) dX8_slideAll_6 rfl ?_
  refine V_aload_n (pc := 8) (i := 0) dX8_slideAll_8 rfl rfl ?_
  obtain ⟨g1, e⟩ := gd_some e
  refine V_getI (pc := 9) (ci := 7) (k := 0) dX8_slideAll_9 fl_X8_9 rfl (of_decide_eq_true g1) ?_
  refine V_icmp_ge (pc := 12) (tgt := 56) dX8_slideAll_12 (by decide) (fun c13 => ?_) (fun c13 => ?_)
  · rw [if_pos c13] at e
    cases e
    exact V_pick [5] rfl (kE56 _ rfl)
  · rw [if_neg c13] at e
    refine V_pick [0, 1, 2, 3, 4, 5, 6] rfl ?_
    refine V_aload_n (pc := 15) (i := 0) dX8_slideAll_15 rfl rfl ?_
    obtain ⟨q2, g3, e⟩ := ob_some e
    refine V_getR (pc := 16) (ci := 7) (k := 3) (b := q2) dX8_slideAll_16 fl_X8_22 rfl (of_decide_eq_true g1) g3 ?_
    refine V_iload (pc := 19) (i := 6) dX8_slideAll_19 rfl ?_
    obtain ⟨g4, e⟩ := gd_some e
    obtain ⟨g5, e⟩ := gd_some e
    refine V_iald (pc := 21) dX8_slideAll_21 (of_decide_eq_true g4) (ix_in g5) ?_
    refine V_aload_n (pc := 22) (i := 1) dX8_slideAll_22 rfl rfl ?_
    refine V_aload_n (pc := 23) (i := 2) dX8_slideAll_23 rfl rfl ?_
    refine V_iload_n (pc := 24) (i := 3) dX8_slideAll_24 rfl rfl ?_
    refine V_iload (pc := 25) (i := 4) dX8_slideAll_25 rfl ?_
    obtain ⟨r7, g6, e⟩ := ob_some e
    refine V_callS (pc := 27) (bc := 0) (bs := 0) (mc := 0) (ms := 0) (st := []) (As := [.int (zI h q2 (v6).toNatClampNeg), .ref v1, .ref v2, .int v3, .int v4]) (h' := h) (r := some (.int r7)) dX8_slideAll_27 ml_X8_31 rfl rfl (Nat.le_of_ble_eq_true rfl) (d' := 0) (by decide) (c_X8_nextRoom (l := x.2.1) (zI h q2 (v6).toNatClampNeg) v1 v2 v3 v4 h g6) ?_
    refine V_istore (pc := 30) (i := 7) (lv' := [(7, .int r7), (0, .ref v0), (1, .ref v1), (2, .ref v2), (3, .int v3), (4, .int v4), (5, .int v5), (6, .int v6)]) dX8_slideAll_30 (by decide) rfl ?_
    refine V_iload (pc := 32) (i := 7) dX8_slideAll_32 rfl ?_
    refine V_iconst (pc := 34) (v := (-1 : Int32)) dX8_slideAll_34 (by decide) ?_
    refine V_icmp_eq (pc := 35) (tgt := 50) dX8_slideAll_35 (by decide) (fun c12 => ?_) (fun c12 => ?_)
    · rw [if_pos c12] at e
      exact V_pick [1, 2, 3, 4, 5, 6, 7] rfl (r_X8_slideAll_b50 v0 v1 v2 v3 v4 v5 v6 h e kI kE56)
    · rw [if_neg c12] at e
      refine V_pick [1, 2, 3, 4, 5, 6, 7, 0] rfl ?_
      refine V_aload_n (pc := 38) (i := 0) dX8_slideAll_38 rfl rfl ?_
      obtain ⟨q8, g9, e⟩ := ob_some e
      refine V_getR (pc := 39) (ci := 7) (k := 3) (b := q8) dX8_slideAll_39 fl_X8_22 rfl (of_decide_eq_true g1) g9 ?_
      refine V_iload (pc := 42) (i := 6) dX8_slideAll_42 rfl ?_
      refine V_iload (pc := 44) (i := 7) dX8_slideAll_44 rfl ?_
      obtain ⟨g10, e⟩ := gd_some e
      obtain ⟨g11, e⟩ := gd_some e
      refine V_iast (pc := 46) dX8_slideAll_46 (of_decide_eq_true g10) (ix_in g11) ?_
      refine V_iinc (pc := 47) (i := 5) (u := v5 + (1 : Int32)) (lv' := [(5, .int (v5 + (1 : Int32))), (0, .ref v0), (1, .ref v1), (2, .ref v2), (3, .int v3), (4, .int v4), (6, .int v6), (7, .int r7)]) dX8_slideAll_47 rfl rfl (by decide) rfl ?_
      exact V_pick [1, 2, 3, 4, 5, 0, 6] rfl (r_X8_slideAll_b50 v0 v1 v2 v3 v4 (v5 + (1 : Int32)) v6 (setI h q8 (v6).toNatClampNeg r7) e kI kE56)
set_option maxRecDepth 100000 in
def F_X8_slideAll_b0 (v0 : Nat) (v1 : Nat) (v2 : Nat) (v3 : Int32) (v4 : Int32) (h : Hp) : Option (Int32 × Hp) :=
  ob (iter (fun z : Int32 × Int32 × Hp => F_X8_slideAll_l6 v0 v1 v2 v3 v4 z.1 z.2.1 z.2.2) FU ((0 : Int32), (0 : Int32), h)) (fun z => un2 z fun w14 h15 => some (w14, h15))
set_option maxHeartbeats 4000000 in
set_option maxRecDepth 100000 in
theorem r_X8_slideAll_b0 (v0 : Nat) (v1 : Nat) (v2 : Nat) (v3 : Int32) (v4 : Int32) (h : Hp) {x : Cx} {r : Int32} {hz : Hp} (e : F_X8_slideAll_b0 v0 v1 v2 v3 v4 h = some (r, hz)) (hF : Fin9 M_X8_slideAll x (some .int) (some (.int r)) hz) : V M_X8_slideAll x 1 0 [(0, .ref v0), (1, .ref v1), (2, .ref v2), (3, .int v3), (4, .int v4)] [] h 0 0 := by
  unfold F_X8_slideAll_b0 at e
  refine V_iconst (pc := 0) (v := (0 : Int32)) dX8_slideAll_0 (by decide) ?_
  refine V_istore (pc := 1) (i := 5) (lv' := [(5, .int (0 : Int32)), (0, .ref v0), (1, .ref v1), (2, .ref v2), (3, .int v3), (4, .int v4)]) dX8_slideAll_1 (by decide) rfl ?_
  refine V_iconst (pc := 3) (v := (0 : Int32)) dX8_slideAll_3 (by decide) ?_
  refine V_istore (pc := 4) (i := 6) (lv' := [(6, .int (0 : Int32)), (5, .int (0 : Int32)), (0, .ref v0), (1, .ref v1), (2, .ref v2), (3, .int v3), (4, .int v4)]) dX8_slideAll_4 (by decide) rfl ?_
  refine V_pick [2, 3, 4, 5, 6, 1, 0] rfl ?_
  obtain ⟨y16, g17, e⟩ := ob_some e
  refine iter_V (P := fun z : Int32 × Int32 × Hp => V M_X8_slideAll x 1 6 [(0, .ref v0), (1, .ref v1), (2, .ref v2), (3, .int v3), (4, .int v4), (5, .int z.1), (6, .int z.2.1)] [] z.2.2 0 0) (E := fun z : Int32 × Hp => V M_X8_slideAll x 1 56 [(5, .int z.1)] [] z.2 0 0) (fun z o e9 k1 k2 => r_X8_slideAll_l6 v0 v1 v2 v3 v4 z.1 z.2.1 z.2.2 e9 (fun z hz9 => k1 z hz9) (fun z hz9 => k2 _ hz9)) _ _ _ g17 ?_
  clear g17
  obtain ⟨w14, h15⟩ := y16
  replace e : some (w14, h15) = some (r, hz) := e
  show V M_X8_slideAll x 1 56 [(5, .int w14)] [] h15 0 0
  refine V_iload (pc := 56) (i := 5) dX8_slideAll_56 rfl ?_
  cases e
  exact V_iret (pc := 58) dX8_slideAll_58 hF
def F_X8_slideAll (v0 : Nat) (v1 : Nat) (v2 : Nat) (v3 : Int32) (v4 : Int32) (h : Hp) : Option (Int32 × Hp) := F_X8_slideAll_b0 v0 v1 v2 v3 v4 h
theorem c_X8_slideAll {l : Launch} (v0 : Nat) (v1 : Nat) (v2 : Nat) (v3 : Int32) (v4 : Int32) (h : Hp) {r : Int32} {hz : Hp} (e : F_X8_slideAll v0 v1 v2 v3 v4 h = some (r, hz)) : Ct l yX8_slideAll M_X8_slideAll (some .int) 1 [.ref v0, .ref v1, .ref v2, .int v3, .int v4] h 0 0 (some (.int r)) hz :=
  Ct_of rfl rfl (fun q => by cases q) (Nat.le_of_ble_eq_true rfl) (fun x _ hF => V_pick [0, 1, 2, 3, 4] rfl (r_X8_slideAll_b0 v0 v1 v2 v3 v4 h e hF))
