theorem dX12_seed_0 : decode cX12_seed 0 = .ok (.aload_n 0, 1) := by decide +kernel
theorem dX12_seed_1 : decode cX12_seed 1 = .ok (.iconst 0, 1) := by decide +kernel
theorem dX12_seed_2 : decode cX12_seed 2 = .ok (.putfield 3, 3) := by decide +kernel
theorem dX12_seed_5 : decode cX12_seed 5 = .ok (.aload_n 0, 1) := by decide +kernel
theorem dX12_seed_6 : decode cX12_seed 6 = .ok (.getfield 13, 3) := by decide +kernel
theorem dX12_seed_9 : decode cX12_seed 9 = .ok (.bipush 10, 2) := by decide +kernel
theorem dX12_seed_11 : decode cX12_seed 11 = .ok (.iaload, 1) := by decide +kernel
theorem dX12_seed_12 : decode cX12_seed 12 = .ok (.istore_n 2, 1) := by decide +kernel
theorem dX12_seed_13 : decode cX12_seed 13 = .ok (.aload_n 0, 1) := by decide +kernel
theorem dX12_seed_14 : decode cX12_seed 14 = .ok (.getfield 13, 3) := by decide +kernel
theorem dX12_seed_17 : decode cX12_seed 17 = .ok (.bipush 10, 2) := by decide +kernel
theorem dX12_seed_19 : decode cX12_seed 19 = .ok (.iload_n 1, 1) := by decide +kernel
theorem dX12_seed_20 : decode cX12_seed 20 = .ok (.iastore, 1) := by decide +kernel
theorem dX12_seed_21 : decode cX12_seed 21 = .ok (.iload_n 2, 1) := by decide +kernel
theorem dX12_seed_22 : decode cX12_seed 22 = .ok (.ireturn, 1) := by decide +kernel
set_option maxRecDepth 100000 in
def F_X12_seed_b0 (v0 : Nat) (v1 : Int32) (h : Hp) : Option (Int32 × Hp) :=
  gd (decide (kd h v0 = 11)) <| ob (zR (setI h v0 0 (0 : Int32)) v0 1) fun q2 => gd (decide (kd (setI h v0 0 (0 : Int32)) q2 = 13)) <| gd (ix (10 : Int32) (zl (setI h v0 0 (0 : Int32)) q2)) <| ob (zR (setI h v0 0 (0 : Int32)) v0 1) fun q6 => gd (decide (kd (setI h v0 0 (0 : Int32)) q6 = 13)) <| gd (ix (10 : Int32) (zl (setI h v0 0 (0 : Int32)) q6)) <| some (zI (setI h v0 0 (0 : Int32)) q2 ((10 : Int32)).toNatClampNeg, setI (setI h v0 0 (0 : Int32)) q6 ((10 : Int32)).toNatClampNeg v1)
set_option maxHeartbeats 4000000 in
set_option maxRecDepth 100000 in
theorem r_X12_seed_b0 (v0 : Nat) (v1 : Int32) (h : Hp) {x : Cx} {r : Int32} {hz : Hp} (e : F_X12_seed_b0 v0 v1 h = some (r, hz)) (hF : Fin9 M_X12_seed x (some .int) (some (.int r)) hz) : V M_X12_seed x 0 0 [(0, .ref v0), (1, .int v1)] [] h 0 0 := by
  unfold F_X12_seed_b0 at e
  refine V_aload_n (pc := 0) (i := 0) dX12_seed_0 rfl rfl ?_
  refine V_iconst (pc := 1) (v := (0 : Int32)) dX12_seed_1 (by decide) ?_
  obtain ⟨g1, e⟩ := gd_some e
  refine V_putI (pc := 2) (ci := 11) (k := 0) dX12_seed_2 fp_X12_3 rfl (of_decide_eq_true g1) ?_
  refine V_aload_n (pc := 5) (i := 0) dX12_seed_5 rfl rfl ?_
  obtain ⟨q2, g3, e⟩ := ob_some e
  refine V_getR (pc := 6) (ci := 11) (k := 1) (b := q2) dX12_seed_6 fl_X12_13 rfl (kd_sI (of_decide_eq_true g1)) g3 ?_
  refine V_bipush (pc := 9) (v := (10 : Int32)) dX12_seed_9 (by decide) ?_
  obtain ⟨g4, e⟩ := gd_some e
  obtain ⟨g5, e⟩ := gd_some e
  refine V_iald (pc := 11) dX12_seed_11 (of_decide_eq_true g4) (ix_in g5) ?_
  refine V_istore_n (pc := 12) (i := 2) (lv' := [(2, .int (zI (setI h v0 0 (0 : Int32)) q2 ((10 : Int32)).toNatClampNeg)), (0, .ref v0), (1, .int v1)]) dX12_seed_12 rfl (by decide) rfl ?_
  refine V_aload_n (pc := 13) (i := 0) dX12_seed_13 rfl rfl ?_
  obtain ⟨q6, g7, e⟩ := ob_some e
  refine V_getR (pc := 14) (ci := 11) (k := 1) (b := q6) dX12_seed_14 fl_X12_13 rfl (kd_sI (of_decide_eq_true g1)) g7 ?_
  refine V_bipush (pc := 17) (v := (10 : Int32)) dX12_seed_17 (by decide) ?_
  refine V_iload_n (pc := 19) (i := 1) dX12_seed_19 rfl rfl ?_
  obtain ⟨g8, e⟩ := gd_some e
  obtain ⟨g9, e⟩ := gd_some e
  refine V_iast (pc := 20) dX12_seed_20 (of_decide_eq_true g8) (ix_in g9) ?_
  refine V_iload_n (pc := 21) (i := 2) dX12_seed_21 rfl rfl ?_
  cases e
  exact V_iret (pc := 22) dX12_seed_22 hF
def F_X12_seed (v0 : Nat) (v1 : Int32) (h : Hp) : Option (Int32 × Hp) := F_X12_seed_b0 v0 v1 h
theorem c_X12_seed {l : Launch} (v0 : Nat) (v1 : Int32) (h : Hp) {r : Int32} {hz : Hp} (e : F_X12_seed v0 v1 h = some (r, hz)) : Ct l yX12_seed M_X12_seed (some .int) 0 [.ref v0, .int v1] h 0 0 (some (.int r)) hz :=
  Ct_of rfl rfl (fun q => by cases q) (Nat.le_of_ble_eq_true rfl) (fun x _ hF => V_pick [0, 1] rfl (r_X12_seed_b0 v0 v1 h e hF))
theorem dX12_rent_0 : decode cX12_rent 0 = .ok (.aload_n 0, 1) := by decide +kernel
theorem dX12_rent_1 : decode cX12_rent 1 = .ok (.iconst 0, 1) := by decide +kernel
theorem dX12_rent_2 : decode cX12_rent 2 = .ok (.putfield 3, 3) := by decide +kernel
theorem dX12_rent_5 : decode cX12_rent 5 = .ok (.aload_n 0, 1) := by decide +kernel
theorem dX12_rent_6 : decode cX12_rent 6 = .ok (.aload_n 0, 1) := by decide +kernel
theorem dX12_rent_7 : decode cX12_rent 7 = .ok (.iload_n 1, 1) := by decide +kernel
theorem dX12_rent_8 : decode cX12_rent 8 = .ok (.invokevirtual 244, 3) := by decide +kernel
theorem dX12_rent_11 : decode cX12_rent 11 = .ok (.iconst 1, 1) := by decide +kernel
theorem dX12_rent_12 : decode cX12_rent 12 = .ok (.invokevirtual 240, 3) := by decide +kernel
theorem dX12_rent_15 : decode cX12_rent 15 = .ok (.ifCond .ne 38, 3) := by decide +kernel
theorem dX12_rent_18 : decode cX12_rent 18 = .ok (.aload_n 0, 1) := by decide +kernel
theorem dX12_rent_19 : decode cX12_rent 19 = .ok (.iload_n 2, 1) := by decide +kernel
theorem dX12_rent_20 : decode cX12_rent 20 = .ok (.iconst 0, 1) := by decide +kernel
theorem dX12_rent_21 : decode cX12_rent 21 = .ok (.sipush 9999, 3) := by decide +kernel
theorem dX12_rent_24 : decode cX12_rent 24 = .ok (.invokestatic 64, 3) := by decide +kernel
theorem dX12_rent_27 : decode cX12_rent 27 = .ok (.ifCond .eq 14, 3) := by decide +kernel
theorem dX12_rent_30 : decode cX12_rent 30 = .ok (.iload_n 3, 1) := by decide +kernel
theorem dX12_rent_31 : decode cX12_rent 31 = .ok (.iconst 0, 1) := by decide +kernel
theorem dX12_rent_32 : decode cX12_rent 32 = .ok (.sipush 999, 3) := by decide +kernel
theorem dX12_rent_35 : decode cX12_rent 35 = .ok (.invokestatic 64, 3) := by decide +kernel
theorem dX12_rent_38 : decode cX12_rent 38 = .ok (.ifCond .ne 7, 3) := by decide +kernel
theorem dX12_rent_41 : decode cX12_rent 41 = .ok (.iconst 1, 1) := by decide +kernel
theorem dX12_rent_42 : decode cX12_rent 42 = .ok (.goto 4, 3) := by decide +kernel
theorem dX12_rent_45 : decode cX12_rent 45 = .ok (.iconst 0, 1) := by decide +kernel
theorem dX12_rent_46 : decode cX12_rent 46 = .ok (.iconst 2, 1) := by decide +kernel
theorem dX12_rent_47 : decode cX12_rent 47 = .ok (.invokevirtual 240, 3) := by decide +kernel
theorem dX12_rent_50 : decode cX12_rent 50 = .ok (.ifCond .eq 5, 3) := by decide +kernel
theorem dX12_rent_53 : decode cX12_rent 53 = .ok (.iconst 0, 1) := by decide +kernel
theorem dX12_rent_54 : decode cX12_rent 54 = .ok (.ireturn, 1) := by decide +kernel
theorem dX12_rent_55 : decode cX12_rent 55 = .ok (.aload_n 0, 1) := by decide +kernel
theorem dX12_rent_56 : decode cX12_rent 56 = .ok (.iload_n 1, 1) := by decide +kernel
theorem dX12_rent_57 : decode cX12_rent 57 = .ok (.invokevirtual 247, 3) := by decide +kernel
theorem dX12_rent_60 : decode cX12_rent 60 = .ok (.istore 4, 2) := by decide +kernel
theorem dX12_rent_62 : decode cX12_rent 62 = .ok (.iconst 0, 1) := by decide +kernel
theorem dX12_rent_63 : decode cX12_rent 63 = .ok (.iload_n 2, 1) := by decide +kernel
theorem dX12_rent_64 : decode cX12_rent 64 = .ok (.iload_n 3, 1) := by decide +kernel
theorem dX12_rent_65 : decode cX12_rent 65 = .ok (.aload_n 0, 1) := by decide +kernel
theorem dX12_rent_66 : decode cX12_rent 66 = .ok (.iload 4, 2) := by decide +kernel
theorem dX12_rent_68 : decode cX12_rent 68 = .ok (.iconst 0, 1) := by decide +kernel
theorem dX12_rent_69 : decode cX12_rent 69 = .ok (.invokevirtual 131, 3) := by decide +kernel
theorem dX12_rent_72 : decode cX12_rent 72 = .ok (.aload_n 0, 1) := by decide +kernel
theorem dX12_rent_73 : decode cX12_rent 73 = .ok (.iload 4, 2) := by decide +kernel
theorem dX12_rent_75 : decode cX12_rent 75 = .ok (.iconst 1, 1) := by decide +kernel
theorem dX12_rent_76 : decode cX12_rent 76 = .ok (.invokevirtual 131, 3) := by decide +kernel
theorem dX12_rent_79 : decode cX12_rent 79 = .ok (.invokestatic 284, 3) := by decide +kernel
theorem dX12_rent_82 : decode cX12_rent 82 = .ok (.imul, 1) := by decide +kernel
theorem dX12_rent_83 : decode cX12_rent 83 = .ok (.isub, 1) := by decide +kernel
theorem dX12_rent_84 : decode cX12_rent 84 = .ok (.invokestatic 268, 3) := by decide +kernel
theorem dX12_rent_87 : decode cX12_rent 87 = .ok (.ireturn, 1) := by decide +kernel
set_option maxRecDepth 100000 in
def F_X12_rent_b53  (h : Hp) : Option (Int32 × Hp) :=
  some ((0 : Int32), h)
set_option maxHeartbeats 4000000 in
set_option maxRecDepth 100000 in
theorem r_X12_rent_b53  (h : Hp) {x : Cx} {r : Int32} {hz : Hp} (e : F_X12_rent_b53  h = some (r, hz)) (hF : Fin9 M_X12_rent x (some .int) (some (.int r)) hz) : V M_X12_rent x 2 53 [] [] h 0 0 := by
  unfold F_X12_rent_b53 at e
  refine V_iconst (pc := 53) (v := (0 : Int32)) dX12_rent_53 (by decide) ?_
  cases e
  exact V_iret (pc := 54) dX12_rent_54 hF
set_option maxRecDepth 100000 in
def F_X12_rent_b46 (v0 : Nat) (v1 : Int32) (v2 : Int32) (v3 : Int32) (t0 : Nat) (t1 : Int32) (h : Hp) : Option (Int32 × Hp) :=
  ob2 (F_X12_throwsIf t0 t1 (2 : Int32) h) fun r10 h11 => gd (decide (kd h t0 = 11)) <| (if r10 = 0 then ob (F_X12_roomOf v0 v1 h11) fun r14 => gd (decide (kd h11 v0 = 11)) <| ob (F_X12_ofRoom v0 r14 (0 : Int32) h11) fun r17 => ob (F_X12_ofRoom v0 r14 (1 : Int32) h11) fun r19 => ob (F_X12_farOf r17 r19 h11) fun r21 => some (jmax (0 : Int32) (v2 - (v3 * r21)), h11) else F_X12_rent_b53 h11)
set_option maxHeartbeats 4000000 in
set_option maxRecDepth 100000 in
theorem r_X12_rent_b46 (v0 : Nat) (v1 : Int32) (v2 : Int32) (v3 : Int32) (t0 : Nat) (t1 : Int32) (h : Hp) {x : Cx} {r : Int32} {hz : Hp} (e : F_X12_rent_b46 v0 v1 v2 v3 t0 t1 h = some (r, hz)) (hF : Fin9 M_X12_rent x (some .int) (some (.int r)) hz) : V M_X12_rent x 2 46 [(0, .ref v0), (1, .int v1), (2, .int v2), (3, .int v3)] [.int t1, .ref t0] h 0 0 := by
  unfold F_X12_rent_b46 at e
  refine V_iconst (pc := 46) (v := (2 : Int32)) dX12_rent_46 (by decide) ?_
  obtain ⟨r10, h11, g9, e⟩ := ob2_some e
  obtain ⟨g12, e⟩ := gd_some e
  refine V_callV (pc := 47) (bc := 0) (bs := 0) (mc := 0) (ms := 0) (st := []) (As := [.int t1, .int (2 : Int32)]) (a := t0) (h' := h11) (r := some (.int r10)) dX12_rent_47 ml_X12_240 (ci := 11) rfl (of_decide_eq_true g12) rfl rfl (Nat.le_of_ble_eq_true rfl) (d' := 0) (by decide) (c_X12_throwsIf (l := x.2.1) t0 t1 (2 : Int32) h g9) ?_
  refine V_if_eq (pc := 50) (tgt := 55) dX12_rent_50 (by decide) (fun c22 => ?_) (fun c22 => ?_)
  · rw [if_pos c22] at e
    refine V_pick [0, 1, 2, 3] rfl ?_
    refine V_aload_n (pc := 55) (i := 0) dX12_rent_55 rfl rfl ?_
    refine V_iload_n (pc := 56) (i := 1) dX12_rent_56 rfl rfl ?_
    obtain ⟨r14, g13, e⟩ := ob_some e
    obtain ⟨g15, e⟩ := gd_some e
    refine V_callV (pc := 57) (bc := 0) (bs := 0) (mc := 0) (ms := 0) (st := []) (As := [.int v1]) (a := v0) (h' := h11) (r := some (.int r14)) dX12_rent_57 ml_X12_247 (ci := 11) rfl (of_decide_eq_true g15) rfl rfl (Nat.le_of_ble_eq_true rfl) (d' := 0) (by decide) (c_X12_roomOf (l := x.2.1) v0 v1 h11 g13) ?_
    refine V_istore (pc := 60) (i := 4) (lv' := [(4, .int r14), (0, .ref v0), (1, .int v1), (2, .int v2), (3, .int v3)]) dX12_rent_60 (by decide) rfl ?_
    refine V_iconst (pc := 62) (v := (0 : Int32)) dX12_rent_62 (by decide) ?_
    refine V_iload_n (pc := 63) (i := 2) dX12_rent_63 rfl rfl ?_
    refine V_iload_n (pc := 64) (i := 3) dX12_rent_64 rfl rfl ?_
    refine V_aload_n (pc := 65) (i := 0) dX12_rent_65 rfl rfl ?_
    refine V_iload (pc := 66) (i := 4) dX12_rent_66 rfl ?_
    refine V_iconst (pc := 68) (v := (0 : Int32)) dX12_rent_68 (by decide) ?_
    obtain ⟨r17, g16, e⟩ := ob_some e
    refine V_callV (pc := 69) (bc := 0) (bs := 0) (mc := 0) (ms := 0) (st := [.int v3, .int v2, .int (0 : Int32)]) (As := [.int r14, .int (0 : Int32)]) (a := v0) (h' := h11) (r := some (.int r17)) dX12_rent_69 ml_X12_131 (ci := 11) rfl (of_decide_eq_true g15) rfl rfl (Nat.le_of_ble_eq_true rfl) (d' := 0) (by decide) (c_X12_ofRoom (l := x.2.1) v0 r14 (0 : Int32) h11 g16) ?_
    refine V_aload_n (pc := 72) (i := 0) dX12_rent_72 rfl rfl ?_
    refine V_iload (pc := 73) (i := 4) dX12_rent_73 rfl ?_
    refine V_iconst (pc := 75) (v := (1 : Int32)) dX12_rent_75 (by decide) ?_
    obtain ⟨r19, g18, e⟩ := ob_some e
    refine V_callV (pc := 76) (bc := 0) (bs := 0) (mc := 0) (ms := 0) (st := [.int r17, .int v3, .int v2, .int (0 : Int32)]) (As := [.int r14, .int (1 : Int32)]) (a := v0) (h' := h11) (r := some (.int r19)) dX12_rent_76 ml_X12_131 (ci := 11) rfl (of_decide_eq_true g15) rfl rfl (Nat.le_of_ble_eq_true rfl) (d' := 0) (by decide) (c_X12_ofRoom (l := x.2.1) v0 r14 (1 : Int32) h11 g18) ?_
    obtain ⟨r21, g20, e⟩ := ob_some e
    refine V_callS (pc := 79) (bc := 0) (bs := 0) (mc := 0) (ms := 0) (st := [.int v3, .int v2, .int (0 : Int32)]) (As := [.int r17, .int r19]) (h' := h11) (r := some (.int r21)) dX12_rent_79 ml_X12_284 rfl rfl (Nat.le_of_ble_eq_true rfl) (d' := 1) (by decide) (c_X12_farOf (l := x.2.1) r17 r19 h11 g20) ?_
    refine V_imul (pc := 82) dX12_rent_82 ?_
    refine V_isub (pc := 83) dX12_rent_83 ?_
    refine V_max (pc := 84) dX12_rent_84 wm_X12_268 (by decide) (Nat.le_of_ble_eq_true rfl) ?_
    cases e
    exact V_iret (pc := 87) dX12_rent_87 hF
  · rw [if_neg c22] at e
    exact V_pick [] rfl (r_X12_rent_b53 h11 e hF)
set_option maxRecDepth 100000 in
def F_X12_rent_b41 (v0 : Nat) (v1 : Int32) (v2 : Int32) (v3 : Int32) (t0 : Nat) (h : Hp) : Option (Int32 × Hp) :=
  F_X12_rent_b46 v0 v1 v2 v3 t0 (1 : Int32) h
set_option maxHeartbeats 4000000 in
set_option maxRecDepth 100000 in
theorem r_X12_rent_b41 (v0 : Nat) (v1 : Int32) (v2 : Int32) (v3 : Int32) (t0 : Nat) (h : Hp) {x : Cx} {r : Int32} {hz : Hp} (e : F_X12_rent_b41 v0 v1 v2 v3 t0 h = some (r, hz)) (hF : Fin9 M_X12_rent x (some .int) (some (.int r)) hz) : V M_X12_rent x 2 41 [(0, .ref v0), (1, .int v1), (2, .int v2), (3, .int v3)] [.ref t0] h 0 0 := by
  unfold F_X12_rent_b41 at e
  refine V_iconst (pc := 41) (v := (1 : Int32)) dX12_rent_41 (by decide) ?_
  refine V_goto (pc := 42) (tgt := 46) dX12_rent_42 (by decide) ?_
  exact V_pick [0, 1, 2, 3] rfl (r_X12_rent_b46 v0 v1 v2 v3 t0 (1 : Int32) h e hF)
set_option maxRecDepth 100000 in
def F_X12_rent_b0 (v0 : Nat) (v1 : Int32) (v2 : Int32) (v3 : Int32) (h : Hp) : Option (Int32 × Hp) :=
  gd (decide (kd h v0 = 11)) <| ob (F_X12_noGuest v0 v1 (setI h v0 0 (0 : Int32))) fun r3 => ob2 (F_X12_throwsIf v0 r3 (1 : Int32) (setI h v0 0 (0 : Int32))) fun r5 h6 => (if r5 = 0 then ob (F_X12_in v2 (0 : Int32) (9999 : Int32) h6) fun r8 => (if r8 = 0 then F_X12_rent_b41 v0 v1 v2 v3 v0 h6 else ob (F_X12_in v3 (0 : Int32) (999 : Int32) h6) fun r24 => (if r24 = 0 then F_X12_rent_b41 v0 v1 v2 v3 v0 h6 else F_X12_rent_b46 v0 v1 v2 v3 v0 (0 : Int32) h6)) else F_X12_rent_b53 h6)
set_option maxHeartbeats 4000000 in
set_option maxRecDepth 100000 in
theorem r_X12_rent_b0 (v0 : Nat) (v1 : Int32) (v2 : Int32) (v3 : Int32) (h : Hp) {x : Cx} {r : Int32} {hz : Hp} (e : F_X12_rent_b0 v0 v1 v2 v3 h = some (r, hz)) (hF : Fin9 M_X12_rent x (some .int) (some (.int r)) hz) : V M_X12_rent x 2 0 [(0, .ref v0), (1, .int v1), (2, .int v2), (3, .int v3)] [] h 0 0 := by
  unfold F_X12_rent_b0 at e
  refine V_aload_n (pc := 0) (i := 0) dX12_rent_0 rfl rfl ?_
  refine V_iconst (pc := 1) (v := (0 : Int32)) dX12_rent_1 (by decide) ?_
  obtain ⟨g1, e⟩ := gd_some e
  refine V_putI (pc := 2) (ci := 11) (k := 0) dX12_rent_2 fp_X12_3 rfl (of_decide_eq_true g1) ?_
  refine V_aload_n (pc := 5) (i := 0) dX12_rent_5 rfl rfl ?_
  refine V_aload_n (pc := 6) (i := 0) dX12_rent_6 rfl rfl ?_
  refine V_iload_n (pc := 7) (i := 1) dX12_rent_7 rfl rfl ?_
  obtain ⟨r3, g2, e⟩ := ob_some e
  refine V_callV (pc := 8) (bc := 0) (bs := 0) (mc := 0) (ms := 0) (st := [.ref v0]) (As := [.int v1]) (a := v0) (h' := (setI h v0 0 (0 : Int32))) (r := some (.int r3)) dX12_rent_8 ml_X12_244 (ci := 11) rfl (kd_sI (of_decide_eq_true g1)) rfl rfl (Nat.le_of_ble_eq_true rfl) (d' := 1) (by decide) (c_X12_noGuest (l := x.2.1) v0 v1 (setI h v0 0 (0 : Int32)) g2) ?_
  refine V_iconst (pc := 11) (v := (1 : Int32)) dX12_rent_11 (by decide) ?_
  obtain ⟨r5, h6, g4, e⟩ := ob2_some e
  refine V_callV (pc := 12) (bc := 0) (bs := 0) (mc := 0) (ms := 0) (st := []) (As := [.int r3, .int (1 : Int32)]) (a := v0) (h' := h6) (r := some (.int r5)) dX12_rent_12 ml_X12_240 (ci := 11) rfl (kd_sI (of_decide_eq_true g1)) rfl rfl (Nat.le_of_ble_eq_true rfl) (d' := 0) (by decide) (c_X12_throwsIf (l := x.2.1) v0 r3 (1 : Int32) (setI h v0 0 (0 : Int32)) g4) ?_
  refine V_if_ne (pc := 15) (tgt := 53) dX12_rent_15 (by decide) (fun c27 => ?_) (fun c27 => ?_)
  · rw [if_neg c27] at e
    exact V_pick [] rfl (r_X12_rent_b53 h6 e hF)
  · rw [if_pos c27] at e
    refine V_pick [0, 1, 2, 3] rfl ?_
    refine V_aload_n (pc := 18) (i := 0) dX12_rent_18 rfl rfl ?_
    refine V_iload_n (pc := 19) (i := 2) dX12_rent_19 rfl rfl ?_
    refine V_iconst (pc := 20) (v := (0 : Int32)) dX12_rent_20 (by decide) ?_
    refine V_sipush (pc := 21) (v := (9999 : Int32)) dX12_rent_21 (by decide) ?_
    obtain ⟨r8, g7, e⟩ := ob_some e
    refine V_callS (pc := 24) (bc := 0) (bs := 0) (mc := 0) (ms := 0) (st := [.ref v0]) (As := [.int v2, .int (0 : Int32), .int (9999 : Int32)]) (h' := h6) (r := some (.int r8)) dX12_rent_24 ml_X12_64 rfl rfl (Nat.le_of_ble_eq_true rfl) (d' := 0) (by decide) (c_X12_in (l := x.2.1) v2 (0 : Int32) (9999 : Int32) h6 g7) ?_
    refine V_if_eq (pc := 27) (tgt := 41) dX12_rent_27 (by decide) (fun c26 => ?_) (fun c26 => ?_)
    · rw [if_pos c26] at e
      exact V_pick [0, 1, 2, 3] rfl (r_X12_rent_b41 v0 v1 v2 v3 v0 h6 e hF)
    · rw [if_neg c26] at e
      refine V_pick [0, 1, 2, 3] rfl ?_
      refine V_iload_n (pc := 30) (i := 3) dX12_rent_30 rfl rfl ?_
      refine V_iconst (pc := 31) (v := (0 : Int32)) dX12_rent_31 (by decide) ?_
      refine V_sipush (pc := 32) (v := (999 : Int32)) dX12_rent_32 (by decide) ?_
      obtain ⟨r24, g23, e⟩ := ob_some e
      refine V_callS (pc := 35) (bc := 0) (bs := 0) (mc := 0) (ms := 0) (st := [.ref v0]) (As := [.int v3, .int (0 : Int32), .int (999 : Int32)]) (h' := h6) (r := some (.int r24)) dX12_rent_35 ml_X12_64 rfl rfl (Nat.le_of_ble_eq_true rfl) (d' := 0) (by decide) (c_X12_in (l := x.2.1) v3 (0 : Int32) (999 : Int32) h6 g23) ?_
      refine V_if_ne (pc := 38) (tgt := 45) dX12_rent_38 (by decide) (fun c25 => ?_) (fun c25 => ?_)
      · rw [if_neg c25] at e
        refine V_pick [0, 1, 2, 3] rfl ?_
        refine V_iconst (pc := 45) (v := (0 : Int32)) dX12_rent_45 (by decide) ?_
        exact V_pick [0, 1, 2, 3] rfl (r_X12_rent_b46 v0 v1 v2 v3 v0 (0 : Int32) h6 e hF)
      · rw [if_pos c25] at e
        exact V_pick [0, 1, 2, 3] rfl (r_X12_rent_b41 v0 v1 v2 v3 v0 h6 e hF)
def F_X12_rent (v0 : Nat) (v1 : Int32) (v2 : Int32) (v3 : Int32) (h : Hp) : Option (Int32 × Hp) := F_X12_rent_b0 v0 v1 v2 v3 h
theorem c_X12_rent {l : Launch} (v0 : Nat) (v1 : Int32) (v2 : Int32) (v3 : Int32) (h : Hp) {r : Int32} {hz : Hp} (e : F_X12_rent v0 v1 v2 v3 h = some (r, hz)) : Ct l yX12_rent M_X12_rent (some .int) 2 [.ref v0, .int v1, .int v2, .int v3] h 0 0 (some (.int r)) hz :=
  Ct_of rfl rfl (fun q => by cases q) (Nat.le_of_ble_eq_true rfl) (fun x _ hF => V_pick [0, 1, 2, 3] rfl (r_X12_rent_b0 v0 v1 v2 v3 h e hF))
theorem dX12_count_0 : decode cX12_count 0 = .ok (.aload_n 0, 1) := by decide +kernel
theorem dX12_count_1 : decode cX12_count 1 = .ok (.iconst 0, 1) := by decide +kernel
theorem dX12_count_2 : decode cX12_count 2 = .ok (.putfield 3, 3) := by decide +kernel
theorem dX12_count_5 : decode cX12_count 5 = .ok (.iconst 0, 1) := by decide +kernel
theorem dX12_count_6 : decode cX12_count 6 = .ok (.istore_n 2, 1) := by decide +kernel
theorem dX12_count_7 : decode cX12_count 7 = .ok (.iload_n 1, 1) := by decide +kernel
theorem dX12_count_8 : decode cX12_count 8 = .ok (.tableswitch 194 0 11 #[64, 69, 74, 79, 86, 93, 100, 108, 116, 124, 132, 159], 64) := by decide +kernel
theorem dX12_count_72 : decode cX12_count 72 = .ok (.aload_n 0, 1) := by decide +kernel
theorem dX12_count_73 : decode cX12_count 73 = .ok (.invokevirtual 60, 3) := by decide +kernel
theorem dX12_count_76 : decode cX12_count 76 = .ok (.ireturn, 1) := by decide +kernel
theorem dX12_count_77 : decode cX12_count 77 = .ok (.aload_n 0, 1) := by decide +kernel
theorem dX12_count_78 : decode cX12_count 78 = .ok (.invokevirtual 68, 3) := by decide +kernel
theorem dX12_count_81 : decode cX12_count 81 = .ok (.ireturn, 1) := by decide +kernel
theorem dX12_count_82 : decode cX12_count 82 = .ok (.aload_n 0, 1) := by decide +kernel
theorem dX12_count_83 : decode cX12_count 83 = .ok (.invokevirtual 71, 3) := by decide +kernel
theorem dX12_count_86 : decode cX12_count 86 = .ok (.ireturn, 1) := by decide +kernel
theorem dX12_count_87 : decode cX12_count 87 = .ok (.aload_n 0, 1) := by decide +kernel
theorem dX12_count_88 : decode cX12_count 88 = .ok (.getfield 13, 3) := by decide +kernel
theorem dX12_count_91 : decode cX12_count 91 = .ok (.iconst 3, 1) := by decide +kernel
theorem dX12_count_92 : decode cX12_count 92 = .ok (.iaload, 1) := by decide +kernel
theorem dX12_count_93 : decode cX12_count 93 = .ok (.ireturn, 1) := by decide +kernel
theorem dX12_count_94 : decode cX12_count 94 = .ok (.aload_n 0, 1) := by decide +kernel
theorem dX12_count_95 : decode cX12_count 95 = .ok (.getfield 13, 3) := by decide +kernel
theorem dX12_count_98 : decode cX12_count 98 = .ok (.iconst 4, 1) := by decide +kernel
theorem dX12_count_99 : decode cX12_count 99 = .ok (.iaload, 1) := by decide +kernel
theorem dX12_count_100 : decode cX12_count 100 = .ok (.ireturn, 1) := by decide +kernel
theorem dX12_count_101 : decode cX12_count 101 = .ok (.aload_n 0, 1) := by decide +kernel
theorem dX12_count_102 : decode cX12_count 102 = .ok (.getfield 13, 3) := by decide +kernel
theorem dX12_count_105 : decode cX12_count 105 = .ok (.iconst 5, 1) := by decide +kernel
theorem dX12_count_106 : decode cX12_count 106 = .ok (.iaload, 1) := by decide +kernel
theorem dX12_count_107 : decode cX12_count 107 = .ok (.ireturn, 1) := by decide +kernel
theorem dX12_count_108 : decode cX12_count 108 = .ok (.aload_n 0, 1) := by decide +kernel
theorem dX12_count_109 : decode cX12_count 109 = .ok (.getfield 13, 3) := by decide +kernel
theorem dX12_count_112 : decode cX12_count 112 = .ok (.bipush 6, 2) := by decide +kernel
theorem dX12_count_114 : decode cX12_count 114 = .ok (.iaload, 1) := by decide +kernel
theorem dX12_count_115 : decode cX12_count 115 = .ok (.ireturn, 1) := by decide +kernel
theorem dX12_count_116 : decode cX12_count 116 = .ok (.aload_n 0, 1) := by decide +kernel
theorem dX12_count_117 : decode cX12_count 117 = .ok (.getfield 13, 3) := by decide +kernel
theorem dX12_count_120 : decode cX12_count 120 = .ok (.bipush 7, 2) := by decide +kernel
theorem dX12_count_122 : decode cX12_count 122 = .ok (.iaload, 1) := by decide +kernel
theorem dX12_count_123 : decode cX12_count 123 = .ok (.ireturn, 1) := by decide +kernel
theorem dX12_count_124 : decode cX12_count 124 = .ok (.aload_n 0, 1) := by decide +kernel
theorem dX12_count_125 : decode cX12_count 125 = .ok (.getfield 13, 3) := by decide +kernel
theorem dX12_count_128 : decode cX12_count 128 = .ok (.bipush 8, 2) := by decide +kernel
theorem dX12_count_130 : decode cX12_count 130 = .ok (.iaload, 1) := by decide +kernel
theorem dX12_count_131 : decode cX12_count 131 = .ok (.ireturn, 1) := by decide +kernel
theorem dX12_count_132 : decode cX12_count 132 = .ok (.aload_n 0, 1) := by decide +kernel
theorem dX12_count_133 : decode cX12_count 133 = .ok (.getfield 13, 3) := by decide +kernel
theorem dX12_count_136 : decode cX12_count 136 = .ok (.bipush 9, 2) := by decide +kernel
theorem dX12_count_138 : decode cX12_count 138 = .ok (.iaload, 1) := by decide +kernel
theorem dX12_count_139 : decode cX12_count 139 = .ok (.ireturn, 1) := by decide +kernel
theorem dX12_count_140 : decode cX12_count 140 = .ok (.iconst 0, 1) := by decide +kernel
theorem dX12_count_141 : decode cX12_count 141 = .ok (.istore_n 3, 1) := by decide +kernel
theorem dX12_count_142 : decode cX12_count 142 = .ok (.iload_n 3, 1) := by decide +kernel
theorem dX12_count_143 : decode cX12_count 143 = .ok (.aload_n 0, 1) := by decide +kernel
theorem dX12_count_144 : decode cX12_count 144 = .ok (.invokevirtual 60, 3) := by decide +kernel
theorem dX12_count_147 : decode cX12_count 147 = .ok (.if_icmp .ge 18, 3) := by decide +kernel
theorem dX12_count_150 : decode cX12_count 150 = .ok (.iload_n 2, 1) := by decide +kernel
theorem dX12_count_151 : decode cX12_count 151 = .ok (.aload_n 0, 1) := by decide +kernel
theorem dX12_count_152 : decode cX12_count 152 = .ok (.iload_n 3, 1) := by decide +kernel
theorem dX12_count_153 : decode cX12_count 153 = .ok (.iconst 3, 1) := by decide +kernel
theorem dX12_count_154 : decode cX12_count 154 = .ok (.invokevirtual 131, 3) := by decide +kernel
theorem dX12_count_157 : decode cX12_count 157 = .ok (.iadd, 1) := by decide +kernel
theorem dX12_count_158 : decode cX12_count 158 = .ok (.istore_n 2, 1) := by decide +kernel
theorem dX12_count_159 : decode cX12_count 159 = .ok (.iinc 3 1, 3) := by decide +kernel
theorem dX12_count_162 : decode cX12_count 162 = .ok (.goto (-20), 3) := by decide +kernel
theorem dX12_count_165 : decode cX12_count 165 = .ok (.iload_n 2, 1) := by decide +kernel
theorem dX12_count_166 : decode cX12_count 166 = .ok (.ireturn, 1) := by decide +kernel
theorem dX12_count_167 : decode cX12_count 167 = .ok (.iconst 0, 1) := by decide +kernel
theorem dX12_count_168 : decode cX12_count 168 = .ok (.istore_n 3, 1) := by decide +kernel
theorem dX12_count_169 : decode cX12_count 169 = .ok (.iload_n 3, 1) := by decide +kernel
theorem dX12_count_170 : decode cX12_count 170 = .ok (.aload_n 0, 1) := by decide +kernel
theorem dX12_count_171 : decode cX12_count 171 = .ok (.invokevirtual 68, 3) := by decide +kernel
theorem dX12_count_174 : decode cX12_count 174 = .ok (.if_icmp .ge 26, 3) := by decide +kernel
theorem dX12_count_177 : decode cX12_count 177 = .ok (.iload_n 2, 1) := by decide +kernel
theorem dX12_count_178 : decode cX12_count 178 = .ok (.aload_n 0, 1) := by decide +kernel
theorem dX12_count_179 : decode cX12_count 179 = .ok (.getfield 13, 3) := by decide +kernel
theorem dX12_count_182 : decode cX12_count 182 = .ok (.sipush 147, 3) := by decide +kernel
theorem dX12_count_185 : decode cX12_count 185 = .ok (.sipush 817, 3) := by decide +kernel
theorem dX12_count_188 : decode cX12_count 188 = .ok (.iload_n 3, 1) := by decide +kernel
theorem dX12_count_189 : decode cX12_count 189 = .ok (.imul, 1) := by decide +kernel
theorem dX12_count_190 : decode cX12_count 190 = .ok (.iadd, 1) := by decide +kernel
theorem dX12_count_191 : decode cX12_count 191 = .ok (.iaload, 1) := by decide +kernel
theorem dX12_count_192 : decode cX12_count 192 = .ok (.iadd, 1) := by decide +kernel
theorem dX12_count_193 : decode cX12_count 193 = .ok (.istore_n 2, 1) := by decide +kernel
theorem dX12_count_194 : decode cX12_count 194 = .ok (.iinc 3 1, 3) := by decide +kernel
theorem dX12_count_197 : decode cX12_count 197 = .ok (.goto (-28), 3) := by decide +kernel
theorem dX12_count_200 : decode cX12_count 200 = .ok (.iload_n 2, 1) := by decide +kernel
theorem dX12_count_201 : decode cX12_count 201 = .ok (.ireturn, 1) := by decide +kernel
theorem dX12_count_202 : decode cX12_count 202 = .ok (.iconst (-1), 1) := by decide +kernel
theorem dX12_count_203 : decode cX12_count 203 = .ok (.ireturn, 1) := by decide +kernel
set_option maxRecDepth 100000 in
def F_X12_count_l142 (v0 : Nat) (v2 : Int32) (v3 : Int32) (h : Hp) : Option ((Int32 × Int32) ⊕ Int32) :=
  ob (F_X12_rooms v0 h) fun r47 => gd (decide (kd h v0 = 11)) <| (if r47 ≤ v3 then some (.inr v2) else ob (F_X12_ofRoom v0 v3 (3 : Int32) h) fun r50 => some (.inl (v2 + r50, v3 + (1 : Int32))))
set_option maxHeartbeats 4000000 in
set_option maxRecDepth 100000 in
theorem r_X12_count_l142 (v0 : Nat) (v2 : Int32) (v3 : Int32) (h : Hp) {x : Cx} {o : ((Int32 × Int32) ⊕ Int32)} (e : F_X12_count_l142 v0 v2 v3 h = some o) (kI : ∀ z, o = .inl z → V M_X12_count x 1 142 [(0, .ref v0), (2, .int z.1), (3, .int z.2)] [] h 0 0) (kE165 : ∀ z : Int32, o = .inr z → V M_X12_count x 1 165 [(2, .int z)] [] h 0 0) : V M_X12_count x 1 142 [(0, .ref v0), (2, .int v2), (3, .int v3)] [] h 0 0 := by
  unfold F_X12_count_l142 at e
  refine V_iload_n (pc := 142) (i := 3) dX12_count_142 rfl rfl ?_
  refine V_aload_n (pc := 143) (i := 0) dX12_count_143 rfl rfl ?_
  obtain ⟨r47, g46, e⟩ := ob_some e
  obtain ⟨g48, e⟩ := gd_some e
  refine V_callV (pc := 144) (bc := 0) (bs := 0) (mc := 0) (ms := 0) (st := [.int v3]) (As := []) (a := v0) (h' := h) (r := some (.int r47)) dX12_count_144 ml_X12_60 (ci := 11) rfl (of_decide_eq_true g48) rfl rfl (Nat.le_of_ble_eq_true rfl) (d' := 0) (by decide) (c_X12_rooms (l := x.2.1) v0 h g46) ?_
  refine V_icmp_ge (pc := 147) (tgt := 165) dX12_count_147 (by decide) (fun c51 => ?_) (fun c51 => ?_)
  · rw [if_pos c51] at e
    cases e
    exact V_pick [1] rfl (kE165 v2 rfl)
  · rw [if_neg c51] at e
    refine V_pick [0, 1, 2] rfl ?_
    refine V_iload_n (pc := 150) (i := 2) dX12_count_150 rfl rfl ?_
    refine V_aload_n (pc := 151) (i := 0) dX12_count_151 rfl rfl ?_
    refine V_iload_n (pc := 152) (i := 3) dX12_count_152 rfl rfl ?_
    refine V_iconst (pc := 153) (v := (3 : Int32)) dX12_count_153 (by decide) ?_
    obtain ⟨r50, g49, e⟩ := ob_some e
    refine V_callV (pc := 154) (bc := 0) (bs := 0) (mc := 0) (ms := 0) (st := [.int v2]) (As := [.int v3, .int (3 : Int32)]) (a := v0) (h' := h) (r := some (.int r50)) dX12_count_154 ml_X12_131 (ci := 11) rfl (of_decide_eq_true g48) rfl rfl (Nat.le_of_ble_eq_true rfl) (d' := 0) (by decide) (c_X12_ofRoom (l := x.2.1) v0 v3 (3 : Int32) h g49) ?_
    refine V_iadd (pc := 157) dX12_count_157 ?_
    refine V_istore_n (pc := 158) (i := 2) (lv' := [(2, .int (v2 + r50)), (0, .ref v0), (3, .int v3)]) dX12_count_158 rfl (by decide) rfl ?_
    refine V_iinc (pc := 159) (i := 3) (u := v3 + (1 : Int32)) (lv' := [(3, .int (v3 + (1 : Int32))), (2, .int (v2 + r50)), (0, .ref v0)]) dX12_count_159 rfl rfl (by decide) rfl ?_
    refine V_goto (pc := 162) (tgt := 142) dX12_count_162 (by decide) ?_
    cases e
    exact V_pick [2, 1, 0] rfl (kI (v2 + r50, v3 + (1 : Int32)) rfl)
set_option maxRecDepth 100000 in
def F_X12_count_l169 (v0 : Nat) (v2 : Int32) (v3 : Int32) (h : Hp) : Option ((Int32 × Int32) ⊕ Int32) :=
  ob (F_X12_guests v0 h) fun r57 => gd (decide (kd h v0 = 11)) <| (if r57 ≤ v3 then some (.inr v2) else ob (zR h v0 1) fun q59 => gd (decide (kd h q59 = 13)) <| gd (ix ((147 : Int32) + ((817 : Int32) * v3)) (zl h q59)) <| some (.inl (v2 + (zI h q59 ((147 : Int32) + ((817 : Int32) * v3)).toNatClampNeg), v3 + (1 : Int32))))
set_option maxHeartbeats 4000000 in
set_option maxRecDepth 100000 in
theorem r_X12_count_l169 (v0 : Nat) (v2 : Int32) (v3 : Int32) (h : Hp) {x : Cx} {o : ((Int32 × Int32) ⊕ Int32)} (e : F_X12_count_l169 v0 v2 v3 h = some o) (kI : ∀ z, o = .inl z → V M_X12_count x 1 169 [(0, .ref v0), (2, .int z.1), (3, .int z.2)] [] h 0 0) (kE200 : ∀ z : Int32, o = .inr z → V M_X12_count x 1 200 [(2, .int z)] [] h 0 0) : V M_X12_count x 1 169 [(0, .ref v0), (2, .int v2), (3, .int v3)] [] h 0 0 := by
  unfold F_X12_count_l169 at e
  refine V_iload_n (pc := 169) (i := 3) dX12_count_169 rfl rfl ?_
  refine V_aload_n (pc := 170) (i := 0) dX12_count_170 rfl rfl ?_
  obtain ⟨r57, g56, e⟩ := ob_some e
  obtain ⟨g58, e⟩ := gd_some e
  refine V_callV (pc := 171) (bc := 0) (bs := 0) (mc := 0) (ms := 0) (st := [.int v3]) (As := []) (a := v0) (h' := h) (r := some (.int r57)) dX12_count_171 ml_X12_68 (ci := 11) rfl (of_decide_eq_true g58) rfl rfl (Nat.le_of_ble_eq_true rfl) (d' := 0) (by decide) (c_X12_guests (l := x.2.1) v0 h g56) ?_
  refine V_icmp_ge (pc := 174) (tgt := 200) dX12_count_174 (by decide) (fun c63 => ?_) (fun c63 => ?_)
  · rw [if_pos c63] at e
    cases e
    exact V_pick [1] rfl (kE200 v2 rfl)
  · rw [if_neg c63] at e
    refine V_pick [0, 1, 2] rfl ?_
    refine V_iload_n (pc := 177) (i := 2) dX12_count_177 rfl rfl ?_
    refine V_aload_n (pc := 178) (i := 0) dX12_count_178 rfl rfl ?_
    obtain ⟨q59, g60, e⟩ := ob_some e
    refine V_getR (pc := 179) (ci := 11) (k := 1) (b := q59) dX12_count_179 fl_X12_13 rfl (of_decide_eq_true g58) g60 ?_
    refine V_sipush (pc := 182) (v := (147 : Int32)) dX12_count_182 (by decide) ?_
    refine V_sipush (pc := 185) (v := (817 : Int32)) dX12_count_185 (by decide) ?_
    refine V_iload_n (pc := 188) (i := 3) dX12_count_188 rfl rfl ?_
    refine V_imul (pc := 189) dX12_count_189 ?_
    refine V_iadd (pc := 190) dX12_count_190 ?_
    obtain ⟨g61, e⟩ := gd_some e
    obtain ⟨g62, e⟩ := gd_some e
    refine V_iald (pc := 191) dX12_count_191 (of_decide_eq_true g61) (ix_in g62) ?_
    refine V_iadd (pc := 192) dX12_count_192 ?_
    refine V_istore_n (pc := 193) (i := 2) (lv' := [(2, .int (v2 + (zI h q59 ((147 : Int32) + ((817 : Int32) * v3)).toNatClampNeg))), (0, .ref v0), (3, .int v3)]) dX12_count_193 rfl (by decide) rfl ?_
    refine V_iinc (pc := 194) (i := 3) (u := v3 + (1 : Int32)) (lv' := [(3, .int (v3 + (1 : Int32))), (2, .int (v2 + (zI h q59 ((147 : Int32) + ((817 : Int32) * v3)).toNatClampNeg))), (0, .ref v0)]) dX12_count_194 rfl rfl (by decide) rfl ?_
    refine V_goto (pc := 197) (tgt := 169) dX12_count_197 (by decide) ?_
    cases e
    exact V_pick [2, 1, 0] rfl (kI (v2 + (zI h q59 ((147 : Int32) + ((817 : Int32) * v3)).toNatClampNeg), v3 + (1 : Int32)) rfl)
set_option maxRecDepth 100000 in
def F_X12_count_b0 (v0 : Nat) (v1 : Int32) (h : Hp) : Option (Int32 × Hp) :=
  gd (decide (kd h v0 = 11)) <| (if v1 = (0 : Int32) then ob (F_X12_rooms v0 (setI h v0 0 (0 : Int32))) fun r3 => some (r3, setI h v0 0 (0 : Int32)) else if v1 = (1 : Int32) then ob (F_X12_guests v0 (setI h v0 0 (0 : Int32))) fun r6 => some (r6, setI h v0 0 (0 : Int32)) else if v1 = (2 : Int32) then ob (F_X12_trunks v0 (setI h v0 0 (0 : Int32))) fun r9 => some (r9, setI h v0 0 (0 : Int32)) else if v1 = (3 : Int32) then ob (zR (setI h v0 0 (0 : Int32)) v0 1) fun q11 => gd (decide (kd (setI h v0 0 (0 : Int32)) q11 = 13)) <| gd (ix (3 : Int32) (zl (setI h v0 0 (0 : Int32)) q11)) <| some (zI (setI h v0 0 (0 : Int32)) q11 ((3 : Int32)).toNatClampNeg, setI h v0 0 (0 : Int32)) else if v1 = (4 : Int32) then ob (zR (setI h v0 0 (0 : Int32)) v0 1) fun q16 => gd (decide (kd (setI h v0 0 (0 : Int32)) q16 = 13)) <| gd (ix (4 : Int32) (zl (setI h v0 0 (0 : Int32)) q16)) <| some (zI (setI h v0 0 (0 : Int32)) q16 ((4 : Int32)).toNatClampNeg, setI h v0 0 (0 : Int32)) else if v1 = (5 : Int32) then ob (zR (setI h v0 0 (0 : Int32)) v0 1) fun q21 => gd (decide (kd (setI h v0 0 (0 : Int32)) q21 = 13)) <| gd (ix (5 : Int32) (zl (setI h v0 0 (0 : Int32)) q21)) <| some (zI (setI h v0 0 (0 : Int32)) q21 ((5 : Int32)).toNatClampNeg, setI h v0 0 (0 : Int32)) else if v1 = (6 : Int32) then ob (zR (setI h v0 0 (0 : Int32)) v0 1) fun q26 => gd (decide (kd (setI h v0 0 (0 : Int32)) q26 = 13)) <| gd (ix (6 : Int32) (zl (setI h v0 0 (0 : Int32)) q26)) <| some (zI (setI h v0 0 (0 : Int32)) q26 ((6 : Int32)).toNatClampNeg, setI h v0 0 (0 : Int32)) else if v1 = (7 : Int32) then ob (zR (setI h v0 0 (0 : Int32)) v0 1) fun q31 => gd (decide (kd (setI h v0 0 (0 : Int32)) q31 = 13)) <| gd (ix (7 : Int32) (zl (setI h v0 0 (0 : Int32)) q31)) <| some (zI (setI h v0 0 (0 : Int32)) q31 ((7 : Int32)).toNatClampNeg, setI h v0 0 (0 : Int32)) else if v1 = (8 : Int32) then ob (zR (setI h v0 0 (0 : Int32)) v0 1) fun q36 => gd (decide (kd (setI h v0 0 (0 : Int32)) q36 = 13)) <| gd (ix (8 : Int32) (zl (setI h v0 0 (0 : Int32)) q36)) <| some (zI (setI h v0 0 (0 : Int32)) q36 ((8 : Int32)).toNatClampNeg, setI h v0 0 (0 : Int32)) else if v1 = (9 : Int32) then ob (zR (setI h v0 0 (0 : Int32)) v0 1) fun q41 => gd (decide (kd (setI h v0 0 (0 : Int32)) q41 = 13)) <| gd (ix (9 : Int32) (zl (setI h v0 0 (0 : Int32)) q41)) <| some (zI (setI h v0 0 (0 : Int32)) q41 ((9 : Int32)).toNatClampNeg, setI h v0 0 (0 : Int32)) else if v1 = (10 : Int32) then ob (iter (fun z : Int32 × Int32 => F_X12_count_l142 v0 z.1 z.2 (setI h v0 0 (0 : Int32))) FU ((0 : Int32), (0 : Int32))) (fun w52 => some (w52, setI h v0 0 (0 : Int32))) else if v1 = (11 : Int32) then ob (iter (fun z : Int32 × Int32 => F_X12_count_l169 v0 z.1 z.2 (setI h v0 0 (0 : Int32))) FU ((0 : Int32), (0 : Int32))) (fun w64 => some (w64, setI h v0 0 (0 : Int32))) else some ((-1 : Int32), setI h v0 0 (0 : Int32)))
set_option maxHeartbeats 4000000 in
set_option maxRecDepth 100000 in
theorem r_X12_count_b0 (v0 : Nat) (v1 : Int32) (h : Hp) {x : Cx} {r : Int32} {hz : Hp} (e : F_X12_count_b0 v0 v1 h = some (r, hz)) (hF : Fin9 M_X12_count x (some .int) (some (.int r)) hz) : V M_X12_count x 1 0 [(0, .ref v0), (1, .int v1)] [] h 0 0 := by
  unfold F_X12_count_b0 at e
  refine V_aload_n (pc := 0) (i := 0) dX12_count_0 rfl rfl ?_
  refine V_iconst (pc := 1) (v := (0 : Int32)) dX12_count_1 (by decide) ?_
  obtain ⟨g1, e⟩ := gd_some e
  refine V_putI (pc := 2) (ci := 11) (k := 0) dX12_count_2 fp_X12_3 rfl (of_decide_eq_true g1) ?_
  refine V_iconst (pc := 5) (v := (0 : Int32)) dX12_count_5 (by decide) ?_
  refine V_istore_n (pc := 6) (i := 2) (lv' := [(2, .int (0 : Int32)), (0, .ref v0), (1, .int v1)]) dX12_count_6 rfl (by decide) rfl ?_
  refine V_iload_n (pc := 7) (i := 1) dX12_count_7 rfl rfl ?_
  by_cases c4 : v1 = (0 : Int32)
  · rw [if_pos c4] at e
    refine V_tableIn (pc := 8) (tgt := 72) dX12_count_8 (by rw [c4]; decide) (by rw [c4]; decide) (by rw [c4]; rfl) (by decide) ?_
    refine V_pick [1] rfl ?_
    refine V_aload_n (pc := 72) (i := 0) dX12_count_72 rfl rfl ?_
    obtain ⟨r3, g2, e⟩ := ob_some e
    refine V_callV (pc := 73) (bc := 0) (bs := 0) (mc := 0) (ms := 0) (st := []) (As := []) (a := v0) (h' := (setI h v0 0 (0 : Int32))) (r := some (.int r3)) dX12_count_73 ml_X12_60 (ci := 11) rfl (kd_sI (of_decide_eq_true g1)) rfl rfl (Nat.le_of_ble_eq_true rfl) (d' := 0) (by decide) (c_X12_rooms (l := x.2.1) v0 (setI h v0 0 (0 : Int32)) g2) ?_
    cases e
    exact V_iret (pc := 76) dX12_count_76 hF
  · rw [if_neg c4] at e
    by_cases c7 : v1 = (1 : Int32)
    · rw [if_pos c7] at e
      refine V_tableIn (pc := 8) (tgt := 77) dX12_count_8 (by rw [c7]; decide) (by rw [c7]; decide) (by rw [c7]; rfl) (by decide) ?_
      refine V_pick [1] rfl ?_
      refine V_aload_n (pc := 77) (i := 0) dX12_count_77 rfl rfl ?_
      obtain ⟨r6, g5, e⟩ := ob_some e
      refine V_callV (pc := 78) (bc := 0) (bs := 0) (mc := 0) (ms := 0) (st := []) (As := []) (a := v0) (h' := (setI h v0 0 (0 : Int32))) (r := some (.int r6)) dX12_count_78 ml_X12_68 (ci := 11) rfl (kd_sI (of_decide_eq_true g1)) rfl rfl (Nat.le_of_ble_eq_true rfl) (d' := 0) (by decide) (c_X12_guests (l := x.2.1) v0 (setI h v0 0 (0 : Int32)) g5) ?_
      cases e
      exact V_iret (pc := 81) dX12_count_81 hF
    · rw [if_neg c7] at e
      by_cases c10 : v1 = (2 : Int32)
      · rw [if_pos c10] at e
        refine V_tableIn (pc := 8) (tgt := 82) dX12_count_8 (by rw [c10]; decide) (by rw [c10]; decide) (by rw [c10]; rfl) (by decide) ?_
        refine V_pick [1] rfl ?_
        refine V_aload_n (pc := 82) (i := 0) dX12_count_82 rfl rfl ?_
        obtain ⟨r9, g8, e⟩ := ob_some e
        refine V_callV (pc := 83) (bc := 0) (bs := 0) (mc := 0) (ms := 0) (st := []) (As := []) (a := v0) (h' := (setI h v0 0 (0 : Int32))) (r := some (.int r9)) dX12_count_83 ml_X12_71 (ci := 11) rfl (kd_sI (of_decide_eq_true g1)) rfl rfl (Nat.le_of_ble_eq_true rfl) (d' := 0) (by decide) (c_X12_trunks (l := x.2.1) v0 (setI h v0 0 (0 : Int32)) g8) ?_
        cases e
        exact V_iret (pc := 86) dX12_count_86 hF
      · rw [if_neg c10] at e
        by_cases c15 : v1 = (3 : Int32)
        · rw [if_pos c15] at e
          refine V_tableIn (pc := 8) (tgt := 87) dX12_count_8 (by rw [c15]; decide) (by rw [c15]; decide) (by rw [c15]; rfl) (by decide) ?_
          refine V_pick [1] rfl ?_
          refine V_aload_n (pc := 87) (i := 0) dX12_count_87 rfl rfl ?_
          obtain ⟨q11, g12, e⟩ := ob_some e
          refine V_getR (pc := 88) (ci := 11) (k := 1) (b := q11) dX12_count_88 fl_X12_13 rfl (kd_sI (of_decide_eq_true g1)) g12 ?_
          refine V_iconst (pc := 91) (v := (3 : Int32)) dX12_count_91 (by decide) ?_
          obtain ⟨g13, e⟩ := gd_some e
          obtain ⟨g14, e⟩ := gd_some e
          refine V_iald (pc := 92) dX12_count_92 (of_decide_eq_true g13) (ix_in g14) ?_
          cases e
          exact V_iret (pc := 93) dX12_count_93 hF
        · rw [if_neg c15] at e
          by_cases c20 : v1 = (4 : Int32)
          · rw [if_pos c20] at e
            refine V_tableIn (pc := 8) (tgt := 94) dX12_count_8 (by rw [c20]; decide) (by rw [c20]; decide) (by rw [c20]; rfl) (by decide) ?_
            refine V_pick [1] rfl ?_
            refine V_aload_n (pc := 94) (i := 0) dX12_count_94 rfl rfl ?_
            obtain ⟨q16, g17, e⟩ := ob_some e
            refine V_getR (pc := 95) (ci := 11) (k := 1) (b := q16) dX12_count_95 fl_X12_13 rfl (kd_sI (of_decide_eq_true g1)) g17 ?_
            refine V_iconst (pc := 98) (v := (4 : Int32)) dX12_count_98 (by decide) ?_
            obtain ⟨g18, e⟩ := gd_some e
            obtain ⟨g19, e⟩ := gd_some e
            refine V_iald (pc := 99) dX12_count_99 (of_decide_eq_true g18) (ix_in g19) ?_
            cases e
            exact V_iret (pc := 100) dX12_count_100 hF
          · rw [if_neg c20] at e
            by_cases c25 : v1 = (5 : Int32)
            · rw [if_pos c25] at e
              refine V_tableIn (pc := 8) (tgt := 101) dX12_count_8 (by rw [c25]; decide) (by rw [c25]; decide) (by rw [c25]; rfl) (by decide) ?_
              refine V_pick [1] rfl ?_
              refine V_aload_n (pc := 101) (i := 0) dX12_count_101 rfl rfl ?_
              obtain ⟨q21, g22, e⟩ := ob_some e
              refine V_getR (pc := 102) (ci := 11) (k := 1) (b := q21) dX12_count_102 fl_X12_13 rfl (kd_sI (of_decide_eq_true g1)) g22 ?_
              refine V_iconst (pc := 105) (v := (5 : Int32)) dX12_count_105 (by decide) ?_
              obtain ⟨g23, e⟩ := gd_some e
              obtain ⟨g24, e⟩ := gd_some e
              refine V_iald (pc := 106) dX12_count_106 (of_decide_eq_true g23) (ix_in g24) ?_
              cases e
              exact V_iret (pc := 107) dX12_count_107 hF
            · rw [if_neg c25] at e
              by_cases c30 : v1 = (6 : Int32)
              · rw [if_pos c30] at e
                refine V_tableIn (pc := 8) (tgt := 108) dX12_count_8 (by rw [c30]; decide) (by rw [c30]; decide) (by rw [c30]; rfl) (by decide) ?_
                refine V_pick [1] rfl ?_
                refine V_aload_n (pc := 108) (i := 0) dX12_count_108 rfl rfl ?_
                obtain ⟨q26, g27, e⟩ := ob_some e
                refine V_getR (pc := 109) (ci := 11) (k := 1) (b := q26) dX12_count_109 fl_X12_13 rfl (kd_sI (of_decide_eq_true g1)) g27 ?_
                refine V_bipush (pc := 112) (v := (6 : Int32)) dX12_count_112 (by decide) ?_
                obtain ⟨g28, e⟩ := gd_some e
                obtain ⟨g29, e⟩ := gd_some e
                refine V_iald (pc := 114) dX12_count_114 (of_decide_eq_true g28) (ix_in g29) ?_
                cases e
                exact V_iret (pc := 115) dX12_count_115 hF
              · rw [if_neg c30] at e
                by_cases c35 : v1 = (7 : Int32)
                · rw [if_pos c35] at e
                  refine V_tableIn (pc := 8) (tgt := 116) dX12_count_8 (by rw [c35]; decide) (by rw [c35]; decide) (by rw [c35]; rfl) (by decide) ?_
                  refine V_pick [1] rfl ?_
                  refine V_aload_n (pc := 116) (i := 0) dX12_count_116 rfl rfl ?_
                  obtain ⟨q31, g32, e⟩ := ob_some e
                  refine V_getR (pc := 117) (ci := 11) (k := 1) (b := q31) dX12_count_117 fl_X12_13 rfl (kd_sI (of_decide_eq_true g1)) g32 ?_
                  refine V_bipush (pc := 120) (v := (7 : Int32)) dX12_count_120 (by decide) ?_
                  obtain ⟨g33, e⟩ := gd_some e
                  obtain ⟨g34, e⟩ := gd_some e
                  refine V_iald (pc := 122) dX12_count_122 (of_decide_eq_true g33) (ix_in g34) ?_
                  cases e
                  exact V_iret (pc := 123) dX12_count_123 hF
                · rw [if_neg c35] at e
                  by_cases c40 : v1 = (8 : Int32)
                  · rw [if_pos c40] at e
                    refine V_tableIn (pc := 8) (tgt := 124) dX12_count_8 (by rw [c40]; decide) (by rw [c40]; decide) (by rw [c40]; rfl) (by decide) ?_
                    refine V_pick [1] rfl ?_
                    refine V_aload_n (pc := 124) (i := 0) dX12_count_124 rfl rfl ?_
                    obtain ⟨q36, g37, e⟩ := ob_some e
                    refine V_getR (pc := 125) (ci := 11) (k := 1) (b := q36) dX12_count_125 fl_X12_13 rfl (kd_sI (of_decide_eq_true g1)) g37 ?_
                    refine V_bipush (pc := 128) (v := (8 : Int32)) dX12_count_128 (by decide) ?_
                    obtain ⟨g38, e⟩ := gd_some e
                    obtain ⟨g39, e⟩ := gd_some e
                    refine V_iald (pc := 130) dX12_count_130 (of_decide_eq_true g38) (ix_in g39) ?_
                    cases e
                    exact V_iret (pc := 131) dX12_count_131 hF
                  · rw [if_neg c40] at e
                    by_cases c45 : v1 = (9 : Int32)
                    · rw [if_pos c45] at e
                      refine V_tableIn (pc := 8) (tgt := 132) dX12_count_8 (by rw [c45]; decide) (by rw [c45]; decide) (by rw [c45]; rfl) (by decide) ?_
                      refine V_pick [1] rfl ?_
                      refine V_aload_n (pc := 132) (i := 0) dX12_count_132 rfl rfl ?_
                      obtain ⟨q41, g42, e⟩ := ob_some e
                      refine V_getR (pc := 133) (ci := 11) (k := 1) (b := q41) dX12_count_133 fl_X12_13 rfl (kd_sI (of_decide_eq_true g1)) g42 ?_
                      refine V_bipush (pc := 136) (v := (9 : Int32)) dX12_count_136 (by decide) ?_
                      obtain ⟨g43, e⟩ := gd_some e
                      obtain ⟨g44, e⟩ := gd_some e
                      refine V_iald (pc := 138) dX12_count_138 (of_decide_eq_true g43) (ix_in g44) ?_
                      cases e
                      exact V_iret (pc := 139) dX12_count_139 hF
                    · rw [if_neg c45] at e
                      by_cases c55 : v1 = (10 : Int32)
                      · rw [if_pos c55] at e
                        refine V_tableIn (pc := 8) (tgt := 140) dX12_count_8 (by rw [c55]; decide) (by rw [c55]; decide) (by rw [c55]; rfl) (by decide) ?_
                        refine V_pick [1, 0] rfl ?_
                        refine V_iconst (pc := 140) (v := (0 : Int32)) dX12_count_140 (by decide) ?_
                        refine V_istore_n (pc := 141) (i := 3) (lv' := [(3, .int (0 : Int32)), (0, .ref v0), (2, .int (0 : Int32))]) dX12_count_141 rfl (by decide) rfl ?_
                        refine V_pick [1, 2, 0] rfl ?_
                        obtain ⟨y53, g54, e⟩ := ob_some e
                        refine iter_V (P := fun z : Int32 × Int32 => V M_X12_count x 1 142 [(0, .ref v0), (2, .int z.1), (3, .int z.2)] [] (setI h v0 0 (0 : Int32)) 0 0) (E := fun z : Int32 => V M_X12_count x 1 165 [(2, .int z)] [] (setI h v0 0 (0 : Int32)) 0 0) (fun z o e9 k1 k2 => r_X12_count_l142 v0 z.1 z.2 (setI h v0 0 (0 : Int32)) e9 (fun z hz9 => k1 z hz9) (fun z hz9 => k2 _ hz9)) _ _ _ g54 ?_
                        clear g54
                        obtain ⟨w52, rfl⟩ : ∃ q, q = y53 := ⟨_, rfl⟩
                        replace e : (some (w52, setI h v0 0 (0 : Int32))) = some (r, hz) := e
                        show V M_X12_count x 1 165 [(2, .int w52)] [] (setI h v0 0 (0 : Int32)) 0 0
                        refine V_iload_n (pc := 165) (i := 2) dX12_count_165 rfl rfl ?_
                        cases e
                        exact V_iret (pc := 166) dX12_count_166 hF
                      · rw [if_neg c55] at e
                        by_cases c67 : v1 = (11 : Int32)
                        · rw [if_pos c67] at e
                          refine V_tableIn (pc := 8) (tgt := 167) dX12_count_8 (by rw [c67]; decide) (by rw [c67]; decide) (by rw [c67]; rfl) (by decide) ?_
                          refine V_pick [1, 0] rfl ?_
                          refine V_iconst (pc := 167) (v := (0 : Int32)) dX12_count_167 (by decide) ?_
                          refine V_istore_n (pc := 168) (i := 3) (lv' := [(3, .int (0 : Int32)), (0, .ref v0), (2, .int (0 : Int32))]) dX12_count_168 rfl (by decide) rfl ?_
                          refine V_pick [1, 2, 0] rfl ?_
                          obtain ⟨y65, g66, e⟩ := ob_some e
                          refine iter_V (P := fun z : Int32 × Int32 => V M_X12_count x 1 169 [(0, .ref v0), (2, .int z.1), (3, .int z.2)] [] (setI h v0 0 (0 : Int32)) 0 0) (E := fun z : Int32 => V M_X12_count x 1 200 [(2, .int z)] [] (setI h v0 0 (0 : Int32)) 0 0) (fun z o e9 k1 k2 => r_X12_count_l169 v0 z.1 z.2 (setI h v0 0 (0 : Int32)) e9 (fun z hz9 => k1 z hz9) (fun z hz9 => k2 _ hz9)) _ _ _ g66 ?_
                          clear g66
                          obtain ⟨w64, rfl⟩ : ∃ q, q = y65 := ⟨_, rfl⟩
                          replace e : (some (w64, setI h v0 0 (0 : Int32))) = some (r, hz) := e
                          show V M_X12_count x 1 200 [(2, .int w64)] [] (setI h v0 0 (0 : Int32)) 0 0
                          refine V_iload_n (pc := 200) (i := 2) dX12_count_200 rfl rfl ?_
                          cases e
                          exact V_iret (pc := 201) dX12_count_201 hF
                        · rw [if_neg c67] at e
                          refine V_tableOut (pc := 8) (tgt := 202) dX12_count_8 (by have q0 := tI_ne c4 (z := 0) (by decide); have q1 := tI_ne c7 (z := 1) (by decide); have q2 := tI_ne c10 (z := 2) (by decide); have q3 := tI_ne c15 (z := 3) (by decide); have q4 := tI_ne c20 (z := 4) (by decide); have q5 := tI_ne c25 (z := 5) (by decide); have q6 := tI_ne c30 (z := 6) (by decide); have q7 := tI_ne c35 (z := 7) (by decide); have q8 := tI_ne c40 (z := 8) (by decide); have q9 := tI_ne c45 (z := 9) (by decide); have q10 := tI_ne c55 (z := 10) (by decide); have q11 := tI_ne c67 (z := 11) (by decide); omega) (by decide) ?_
                          refine V_pick [] rfl ?_
                          refine V_iconst (pc := 202) (v := (-1 : Int32)) dX12_count_202 (by decide) ?_
                          cases e
                          exact V_iret (pc := 203) dX12_count_203 hF
def F_X12_count (v0 : Nat) (v1 : Int32) (h : Hp) : Option (Int32 × Hp) := F_X12_count_b0 v0 v1 h
theorem c_X12_count {l : Launch} (v0 : Nat) (v1 : Int32) (h : Hp) {r : Int32} {hz : Hp} (e : F_X12_count v0 v1 h = some (r, hz)) : Ct l yX12_count M_X12_count (some .int) 1 [.ref v0, .int v1] h 0 0 (some (.int r)) hz :=
  Ct_of rfl rfl (fun q => by cases q) (Nat.le_of_ble_eq_true rfl) (fun x _ hF => V_pick [0, 1] rfl (r_X12_count_b0 v0 v1 h e hF))
theorem dX0_copyFrom_0 : decode cX0_copyFrom 0 = .ok (.aload_n 0, 1) := by decide +kernel
theorem dX0_copyFrom_1 : decode cX0_copyFrom 1 = .ok (.aload_n 1, 1) := by decide +kernel
theorem dX0_copyFrom_2 : decode cX0_copyFrom 2 = .ok (.getfield 21, 3) := by decide +kernel
theorem dX0_copyFrom_5 : decode cX0_copyFrom 5 = .ok (.putfield 21, 3) := by decide +kernel
theorem dX0_copyFrom_8 : decode cX0_copyFrom 8 = .ok (.aload_n 1, 1) := by decide +kernel
theorem dX0_copyFrom_9 : decode cX0_copyFrom 9 = .ok (.getfield 9, 3) := by decide +kernel
theorem dX0_copyFrom_12 : decode cX0_copyFrom 12 = .ok (.iconst 0, 1) := by decide +kernel
theorem dX0_copyFrom_13 : decode cX0_copyFrom 13 = .ok (.aload_n 0, 1) := by decide +kernel
theorem dX0_copyFrom_14 : decode cX0_copyFrom 14 = .ok (.getfield 9, 3) := by decide +kernel
theorem dX0_copyFrom_17 : decode cX0_copyFrom 17 = .ok (.iconst 0, 1) := by decide +kernel
theorem dX0_copyFrom_18 : decode cX0_copyFrom 18 = .ok (.bipush 20, 2) := by decide +kernel
theorem dX0_copyFrom_20 : decode cX0_copyFrom 20 = .ok (.invokestatic 25, 3) := by decide +kernel
theorem dX0_copyFrom_23 : decode cX0_copyFrom 23 = .ok (.aload_n 1, 1) := by decide +kernel
theorem dX0_copyFrom_24 : decode cX0_copyFrom 24 = .ok (.getfield 15, 3) := by decide +kernel
theorem dX0_copyFrom_27 : decode cX0_copyFrom 27 = .ok (.iconst 0, 1) := by decide +kernel
theorem dX0_copyFrom_28 : decode cX0_copyFrom 28 = .ok (.aload_n 0, 1) := by decide +kernel
theorem dX0_copyFrom_29 : decode cX0_copyFrom 29 = .ok (.getfield 15, 3) := by decide +kernel
theorem dX0_copyFrom_32 : decode cX0_copyFrom 32 = .ok (.iconst 0, 1) := by decide +kernel
theorem dX0_copyFrom_33 : decode cX0_copyFrom 33 = .ok (.bipush 20, 2) := by decide +kernel
theorem dX0_copyFrom_35 : decode cX0_copyFrom 35 = .ok (.invokestatic 25, 3) := by decide +kernel
theorem dX0_copyFrom_38 : decode cX0_copyFrom 38 = .ok (.aload_n 1, 1) := by decide +kernel
theorem dX0_copyFrom_39 : decode cX0_copyFrom 39 = .ok (.getfield 18, 3) := by decide +kernel
theorem dX0_copyFrom_42 : decode cX0_copyFrom 42 = .ok (.iconst 0, 1) := by decide +kernel
theorem dX0_copyFrom_43 : decode cX0_copyFrom 43 = .ok (.aload_n 0, 1) := by decide +kernel
theorem dX0_copyFrom_44 : decode cX0_copyFrom 44 = .ok (.getfield 18, 3) := by decide +kernel
theorem dX0_copyFrom_47 : decode cX0_copyFrom 47 = .ok (.iconst 0, 1) := by decide +kernel
theorem dX0_copyFrom_48 : decode cX0_copyFrom 48 = .ok (.bipush 20, 2) := by decide +kernel
theorem dX0_copyFrom_50 : decode cX0_copyFrom 50 = .ok (.invokestatic 25, 3) := by decide +kernel
theorem dX0_copyFrom_53 : decode cX0_copyFrom 53 = .ok (.return_, 1) := by decide +kernel
set_option maxRecDepth 100000 in
def F_X0_copyFrom_b0 (v0 : Nat) (v1 : Nat) (h : Hp) : Option (Unit × Hp) :=
  gd (decide (kd h v1 = 0)) <| gd (decide (kd h v0 = 0)) <| ob (zR (setI h v0 0 (zI h v1 0)) v1 1) fun q3 => ob (zR (setI h v0 0 (zI h v1 0)) v0 1) fun q5 => gd (decide (kd (setI h v0 0 (zI h v1 0)) q3 = 13)) <| gd (decide (kd (setI h v0 0 (zI h v1 0)) q5 = 13)) <| gd (cpk (0 : Int32) (0 : Int32) (20 : Int32) (zl (setI h v0 0 (zI h v1 0)) q3) (zl (setI h v0 0 (zI h v1 0)) q5)) <| ob (zR (cpA (setI h v0 0 (zI h v1 0)) q3 (0 : Int32) q5 (0 : Int32) (20 : Int32)) v1 2) fun q10 => ob (zR (cpA (setI h v0 0 (zI h v1 0)) q3 (0 : Int32) q5 (0 : Int32) (20 : Int32)) v0 2) fun q12 => gd (decide (kd (cpA (setI h v0 0 (zI h v1 0)) q3 (0 : Int32) q5 (0 : Int32) (20 : Int32)) q10 = 13)) <| gd (decide (kd (cpA (setI h v0 0 (zI h v1 0)) q3 (0 : Int32) q5 (0 : Int32) (20 : Int32)) q12 = 13)) <| gd (cpk (0 : Int32) (0 : Int32) (20 : Int32) (zl (cpA (setI h v0 0 (zI h v1 0)) q3 (0 : Int32) q5 (0 : Int32) (20 : Int32)) q10) (zl (cpA (setI h v0 0 (zI h v1 0)) q3 (0 : Int32) q5 (0 : Int32) (20 : Int32)) q12)) <| ob (some (cpA (cpA (setI h v0 0 (zI h v1 0)) q3 (0 : Int32) q5 (0 : Int32) (20 : Int32)) q10 (0 : Int32) q12 (0 : Int32) (20 : Int32))) fun h17 => ob (zR h17 v1 3) fun q25 => ob (zR h17 v0 3) fun q27 => gd (decide (kd h17 q25 = 13)) <| gd (decide (kd h17 q27 = 13)) <| gd (cpk (0 : Int32) (0 : Int32) (20 : Int32) (zl h17 q25) (zl h17 q27)) <| some ((), cpA h17 q25 (0 : Int32) q27 (0 : Int32) (20 : Int32))
set_option maxHeartbeats 4000000 in
set_option maxRecDepth 100000 in
theorem r_X0_copyFrom_b0 (v0 : Nat) (v1 : Nat) (h : Hp) {x : Cx} {r : Unit} {hz : Hp} (e : F_X0_copyFrom_b0 v0 v1 h = some (r, hz)) (hF : Fin9 M_X0_copyFrom x none none hz) : V M_X0_copyFrom x 1 0 [(0, .ref v0), (1, .ref v1)] [] h 0 0 := by
  unfold F_X0_copyFrom_b0 at e
  refine V_aload_n (pc := 0) (i := 0) dX0_copyFrom_0 rfl rfl ?_
  refine V_aload_n (pc := 1) (i := 1) dX0_copyFrom_1 rfl rfl ?_
  obtain ⟨g1, e⟩ := gd_some e
  refine V_getI (pc := 2) (ci := 0) (k := 0) dX0_copyFrom_2 fl_X0_21 rfl (of_decide_eq_true g1) ?_
  obtain ⟨g2, e⟩ := gd_some e
  refine V_putI (pc := 5) (ci := 0) (k := 0) dX0_copyFrom_5 fp_X0_21 rfl (of_decide_eq_true g2) ?_
  refine V_aload_n (pc := 8) (i := 1) dX0_copyFrom_8 rfl rfl ?_
  obtain ⟨q3, g4, e⟩ := ob_some e
  refine V_getR (pc := 9) (ci := 0) (k := 1) (b := q3) dX0_copyFrom_9 fl_X0_9 rfl (kd_sI (of_decide_eq_true g1)) g4 ?_
  refine V_iconst (pc := 12) (v := (0 : Int32)) dX0_copyFrom_12 (by decide) ?_
  refine V_aload_n (pc := 13) (i := 0) dX0_copyFrom_13 rfl rfl ?_
  obtain ⟨q5, g6, e⟩ := ob_some e
  refine V_getR (pc := 14) (ci := 0) (k := 1) (b := q5) dX0_copyFrom_14 fl_X0_9 rfl (kd_sI (of_decide_eq_true g2)) g6 ?_
  refine V_iconst (pc := 17) (v := (0 : Int32)) dX0_copyFrom_17 (by decide) ?_
  refine V_bipush (pc := 18) (v := (20 : Int32)) dX0_copyFrom_18 (by decide) ?_
  obtain ⟨g7, e⟩ := gd_some e
  obtain ⟨g8, e⟩ := gd_some e
  obtain ⟨g9, e⟩ := gd_some e
  refine V_copy (pc := 20) dX0_copyFrom_20 wm_X0_25 (of_decide_eq_true g7) (of_decide_eq_true g8) g9 (by decide) (Nat.le_of_ble_eq_true rfl) ?_
  refine V_aload_n (pc := 23) (i := 1) dX0_copyFrom_23 rfl rfl ?_
  obtain ⟨q10, g11, e⟩ := ob_some e
  refine V_getR (pc := 24) (ci := 0) (k := 2) (b := q10) dX0_copyFrom_24 fl_X0_15 rfl (kd_sC (kd_sI (of_decide_eq_true g1))) g11 ?_
  refine V_iconst (pc := 27) (v := (0 : Int32)) dX0_copyFrom_27 (by decide) ?_
  refine V_aload_n (pc := 28) (i := 0) dX0_copyFrom_28 rfl rfl ?_
  obtain ⟨q12, g13, e⟩ := ob_some e
  refine V_getR (pc := 29) (ci := 0) (k := 2) (b := q12) dX0_copyFrom_29 fl_X0_15 rfl (kd_sC (kd_sI (of_decide_eq_true g2))) g13 ?_
  refine V_iconst (pc := 32) (v := (0 : Int32)) dX0_copyFrom_32 (by decide) ?_
  refine V_bipush (pc := 33) (v := (20 : Int32)) dX0_copyFrom_33 (by decide) ?_
  obtain ⟨g14, e⟩ := gd_some e
  obtain ⟨g15, e⟩ := gd_some e
  obtain ⟨g16, e⟩ := gd_some e
  refine V_copy (pc := 35) dX0_copyFrom_35 wm_X0_25 (of_decide_eq_true g14) (of_decide_eq_true g15) g16 (by decide) (Nat.le_of_ble_eq_true rfl) ?_
  obtain ⟨h17, g18, e⟩ := ob_some e
  refine V_hp (Option.some.inj g18) ?_
  have k19 : kd h17 v1 = 0 := kd_eq (h := (cpA (cpA (setI h v0 0 (zI h v1 0)) q3 (0 : Int32) q5 (0 : Int32) (20 : Int32)) q10 (0 : Int32) q12 (0 : Int32) (20 : Int32))) (Option.some.inj g18) (kd_sC (kd_sC (kd_sI (of_decide_eq_true g1))))
  have k20 : kd h17 v0 = 0 := kd_eq (h := (cpA (cpA (setI h v0 0 (zI h v1 0)) q3 (0 : Int32) q5 (0 : Int32) (20 : Int32)) q10 (0 : Int32) q12 (0 : Int32) (20 : Int32))) (Option.some.inj g18) (kd_sC (kd_sC (kd_sI (of_decide_eq_true g2))))
  have k21 : kd h17 q3 = 13 := kd_eq (h := (cpA (cpA (setI h v0 0 (zI h v1 0)) q3 (0 : Int32) q5 (0 : Int32) (20 : Int32)) q10 (0 : Int32) q12 (0 : Int32) (20 : Int32))) (Option.some.inj g18) (kd_sC (kd_sC (of_decide_eq_true g7)))
  have k22 : kd h17 q5 = 13 := kd_eq (h := (cpA (cpA (setI h v0 0 (zI h v1 0)) q3 (0 : Int32) q5 (0 : Int32) (20 : Int32)) q10 (0 : Int32) q12 (0 : Int32) (20 : Int32))) (Option.some.inj g18) (kd_sC (kd_sC (of_decide_eq_true g8)))
  have k23 : kd h17 q10 = 13 := kd_eq (h := (cpA (cpA (setI h v0 0 (zI h v1 0)) q3 (0 : Int32) q5 (0 : Int32) (20 : Int32)) q10 (0 : Int32) q12 (0 : Int32) (20 : Int32))) (Option.some.inj g18) (kd_sC (of_decide_eq_true g14))
  have k24 : kd h17 q12 = 13 := kd_eq (h := (cpA (cpA (setI h v0 0 (zI h v1 0)) q3 (0 : Int32) q5 (0 : Int32) (20 : Int32)) q10 (0 : Int32) q12 (0 : Int32) (20 : Int32))) (Option.some.inj g18) (kd_sC (of_decide_eq_true g15))
  refine V_aload_n (pc := 38) (i := 1) dX0_copyFrom_38 rfl rfl ?_
  obtain ⟨q25, g26, e⟩ := ob_some e
  refine V_getR (pc := 39) (ci := 0) (k := 3) (b := q25) dX0_copyFrom_39 fl_X0_18 rfl k19 g26 ?_
  refine V_iconst (pc := 42) (v := (0 : Int32)) dX0_copyFrom_42 (by decide) ?_
  refine V_aload_n (pc := 43) (i := 0) dX0_copyFrom_43 rfl rfl ?_
  obtain ⟨q27, g28, e⟩ := ob_some e
  refine V_getR (pc := 44) (ci := 0) (k := 3) (b := q27) dX0_copyFrom_44 fl_X0_18 rfl k20 g28 ?_
  refine V_iconst (pc := 47) (v := (0 : Int32)) dX0_copyFrom_47 (by decide) ?_
  refine V_bipush (pc := 48) (v := (20 : Int32)) dX0_copyFrom_48 (by decide) ?_
  obtain ⟨g29, e⟩ := gd_some e
  obtain ⟨g30, e⟩ := gd_some e
  obtain ⟨g31, e⟩ := gd_some e
  refine V_copy (pc := 50) dX0_copyFrom_50 wm_X0_25 (of_decide_eq_true g29) (of_decide_eq_true g30) g31 (by decide) (Nat.le_of_ble_eq_true rfl) ?_
  cases e
  exact V_vret (pc := 53) dX0_copyFrom_53 hF
def F_X0_copyFrom (v0 : Nat) (v1 : Nat) (h : Hp) : Option (Unit × Hp) := F_X0_copyFrom_b0 v0 v1 h
theorem c_X0_copyFrom {l : Launch} (v0 : Nat) (v1 : Nat) (h : Hp) {r : Unit} {hz : Hp} (e : F_X0_copyFrom v0 v1 h = some (r, hz)) : Ct l yX0_copyFrom M_X0_copyFrom none 1 [.ref v0, .ref v1] h 0 0 none hz :=
  Ct_of rfl rfl (fun q => by cases q) (Nat.le_of_ble_eq_true rfl) (fun x _ hF => V_pick [0, 1] rfl (r_X0_copyFrom_b0 v0 v1 h e hF))
theorem dX1_walkAll_0 : decode cX1_walkAll 0 = .ok (.iload_n 2, 1) := by decide +kernel
theorem dX1_walkAll_1 : decode cX1_walkAll 1 = .ok (.istore 4, 2) := by decide +kernel
theorem dX1_walkAll_3 : decode cX1_walkAll 3 = .ok (.iload 4, 2) := by decide +kernel
theorem dX1_walkAll_5 : decode cX1_walkAll 5 = .ok (.aload_n 1, 1) := by decide +kernel
theorem dX1_walkAll_6 : decode cX1_walkAll 6 = .ok (.getfield 55, 3) := by decide +kernel
theorem dX1_walkAll_9 : decode cX1_walkAll 9 = .ok (.if_icmp .ge 46, 3) := by decide +kernel
theorem dX1_walkAll_12 : decode cX1_walkAll 12 = .ok (.iload 4, 2) := by decide +kernel
theorem dX1_walkAll_14 : decode cX1_walkAll 14 = .ok (.bipush 20, 2) := by decide +kernel
theorem dX1_walkAll_16 : decode cX1_walkAll 16 = .ok (.if_icmp .ge 39, 3) := by decide +kernel
theorem dX1_walkAll_19 : decode cX1_walkAll 19 = .ok (.aload_n 1, 1) := by decide +kernel
theorem dX1_walkAll_20 : decode cX1_walkAll 20 = .ok (.getfield 60, 3) := by decide +kernel
theorem dX1_walkAll_23 : decode cX1_walkAll 23 = .ok (.iload 4, 2) := by decide +kernel
theorem dX1_walkAll_25 : decode cX1_walkAll 25 = .ok (.iaload, 1) := by decide +kernel
theorem dX1_walkAll_26 : decode cX1_walkAll 26 = .ok (.iload_n 3, 1) := by decide +kernel
theorem dX1_walkAll_27 : decode cX1_walkAll 27 = .ok (.if_icmp .ne 28, 3) := by decide +kernel
theorem dX1_walkAll_30 : decode cX1_walkAll 30 = .ok (.aload_n 0, 1) := by decide +kernel
theorem dX1_walkAll_31 : decode cX1_walkAll 31 = .ok (.getfield 9, 3) := by decide +kernel
theorem dX1_walkAll_34 : decode cX1_walkAll 34 = .ok (.aload_n 1, 1) := by decide +kernel
theorem dX1_walkAll_35 : decode cX1_walkAll 35 = .ok (.getfield 63, 3) := by decide +kernel
theorem dX1_walkAll_38 : decode cX1_walkAll 38 = .ok (.iload 4, 2) := by decide +kernel
theorem dX1_walkAll_40 : decode cX1_walkAll 40 = .ok (.iaload, 1) := by decide +kernel
theorem dX1_walkAll_41 : decode cX1_walkAll 41 = .ok (.aload_n 1, 1) := by decide +kernel
theorem dX1_walkAll_42 : decode cX1_walkAll 42 = .ok (.getfield 66, 3) := by decide +kernel
theorem dX1_walkAll_45 : decode cX1_walkAll 45 = .ok (.iload 4, 2) := by decide +kernel
theorem dX1_walkAll_47 : decode cX1_walkAll 47 = .ok (.iaload, 1) := by decide +kernel
theorem dX1_walkAll_48 : decode cX1_walkAll 48 = .ok (.iastore, 1) := by decide +kernel
theorem dX1_walkAll_49 : decode cX1_walkAll 49 = .ok (.iinc 4 1, 3) := by decide +kernel
theorem dX1_walkAll_52 : decode cX1_walkAll 52 = .ok (.goto (-49), 3) := by decide +kernel
theorem dX1_walkAll_55 : decode cX1_walkAll 55 = .ok (.iload 4, 2) := by decide +kernel
theorem dX1_walkAll_57 : decode cX1_walkAll 57 = .ok (.ireturn, 1) := by decide +kernel
set_option maxRecDepth 100000 in
def F_X1_walkAll_l3 (v0 : Nat) (v1 : Nat) (v3 : Int32) (v4 : Int32) (h : Hp) : Option ((Int32 × Hp) ⊕ (Int32 × Hp)) :=
  gd (decide (kd h v1 = 0)) <| (if (zI h v1 0) ≤ v4 then some (.inr (v4, h)) else (if (20 : Int32) ≤ v4 then some (.inr (v4, h)) else ob (zR h v1 1) fun q2 => gd (decide (kd h q2 = 13)) <| gd (ix v4 (zl h q2)) <| (if (zI h q2 (v4).toNatClampNeg) = v3 then gd (decide (kd h v0 = 1)) <| ob (zR h v0 0) fun q7 => ob (zR h v1 2) fun q9 => gd (decide (kd h q9 = 13)) <| gd (ix v4 (zl h q9)) <| ob (zR h v1 3) fun q13 => gd (decide (kd h q13 = 13)) <| gd (ix v4 (zl h q13)) <| gd (decide (kd h q7 = 13)) <| gd (ix (zI h q9 (v4).toNatClampNeg) (zl h q7)) <| some (.inl (v4 + (1 : Int32), setI h q7 (zI h q9 (v4).toNatClampNeg).toNatClampNeg (zI h q13 (v4).toNatClampNeg))) else some (.inr (v4, h)))))
set_option maxHeartbeats 4000000 in
set_option maxRecDepth 100000 in
theorem r_X1_walkAll_l3 (v0 : Nat) (v1 : Nat) (v3 : Int32) (v4 : Int32) (h : Hp) {x : Cx} {o : ((Int32 × Hp) ⊕ (Int32 × Hp))} (e : F_X1_walkAll_l3 v0 v1 v3 v4 h = some o) (kI : ∀ z, o = .inl z → V M_X1_walkAll x 0 3 [(0, .ref v0), (1, .ref v1), (3, .int v3), (4, .int z.1)] [] z.2 0 0) (kE55 : ∀ z : Int32 × Hp, o = .inr z → V M_X1_walkAll x 0 55 [(4, .int z.1)] [] z.2 0 0) : V M_X1_walkAll x 0 3 [(0, .ref v0), (1, .ref v1), (3, .int v3), (4, .int v4)] [] h 0 0 := by
  unfold F_X1_walkAll_l3 at e
  refine V_iload (pc := 3) (i := 4) dX1_walkAll_3 rfl ?_
  refine V_aload_n (pc := 5) (i := 1) dX1_walkAll_5 rfl rfl ?_
  obtain ⟨g1, e⟩ := gd_some e
  refine V_getI (pc := 6) (ci := 0) (k := 0) dX1_walkAll_6 fl_X1_55 rfl (of_decide_eq_true g1) ?_
  refine V_icmp_ge (pc := 9) (tgt := 55) dX1_walkAll_9 (by decide) (fun c21 => ?_) (fun c21 => ?_)
  · rw [if_pos c21] at e
    cases e
    exact V_pick [3] rfl (kE55 (v4, h) rfl)
  · rw [if_neg c21] at e
    refine V_pick [0, 1, 2, 3] rfl ?_
    refine V_iload (pc := 12) (i := 4) dX1_walkAll_12 rfl ?_
    refine V_bipush (pc := 14) (v := (20 : Int32)) dX1_walkAll_14 (by decide) ?_
    refine V_icmp_ge (pc := 16) (tgt := 55) dX1_walkAll_16 (by decide) (fun c20 => ?_) (fun c20 => ?_)
    · rw [if_pos c20] at e
      cases e
      exact V_pick [3] rfl (kE55 (v4, h) rfl)
    · rw [if_neg c20] at e
      refine V_pick [0, 1, 2, 3] rfl ?_
      refine V_aload_n (pc := 19) (i := 1) dX1_walkAll_19 rfl rfl ?_
      obtain ⟨q2, g3, e⟩ := ob_some e
      refine V_getR (pc := 20) (ci := 0) (k := 1) (b := q2) dX1_walkAll_20 fl_X1_60 rfl (of_decide_eq_true g1) g3 ?_
      refine V_iload (pc := 23) (i := 4) dX1_walkAll_23 rfl ?_
      obtain ⟨g4, e⟩ := gd_some e
      obtain ⟨g5, e⟩ := gd_some e
      refine V_iald (pc := 25) dX1_walkAll_25 (of_decide_eq_true g4) (ix_in g5) ?_
      refine V_iload_n (pc := 26) (i := 3) dX1_walkAll_26 rfl rfl ?_
      refine V_icmp_ne (pc := 27) (tgt := 55) dX1_walkAll_27 (by decide) (fun c19 => ?_) (fun c19 => ?_)
      · rw [if_neg c19] at e
        cases e
        exact V_pick [3] rfl (kE55 (v4, h) rfl)
      · rw [if_pos c19] at e
        refine V_pick [0, 1, 2, 3] rfl ?_
        refine V_aload_n (pc := 30) (i := 0) dX1_walkAll_30 rfl rfl ?_
        obtain ⟨g6, e⟩ := gd_some e
        obtain ⟨q7, g8, e⟩ := ob_some e
        refine V_getR (pc := 31) (ci := 1) (k := 0) (b := q7) dX1_walkAll_31 fl_X1_9 rfl (of_decide_eq_true g6) g8 ?_
        refine V_aload_n (pc := 34) (i := 1) dX1_walkAll_34 rfl rfl ?_
        obtain ⟨q9, g10, e⟩ := ob_some e
        refine V_getR (pc := 35) (ci := 0) (k := 2) (b := q9) dX1_walkAll_35 fl_X1_63 rfl (of_decide_eq_true g1) g10 ?_
        refine V_iload (pc := 38) (i := 4) dX1_walkAll_38 rfl ?_
        obtain ⟨g11, e⟩ := gd_some e
        obtain ⟨g12, e⟩ := gd_some e
        refine V_iald (pc := 40) dX1_walkAll_40 (of_decide_eq_true g11) (ix_in g12) ?_
        refine V_aload_n (pc := 41) (i := 1) dX1_walkAll_41 rfl rfl ?_
        obtain ⟨q13, g14, e⟩ := ob_some e
        refine V_getR (pc := 42) (ci := 0) (k := 3) (b := q13) dX1_walkAll_42 fl_X1_66 rfl (of_decide_eq_true g1) g14 ?_
        refine V_iload (pc := 45) (i := 4) dX1_walkAll_45 rfl ?_
        obtain ⟨g15, e⟩ := gd_some e
        obtain ⟨g16, e⟩ := gd_some e
        refine V_iald (pc := 47) dX1_walkAll_47 (of_decide_eq_true g15) (ix_in g16) ?_
        obtain ⟨g17, e⟩ := gd_some e
        obtain ⟨g18, e⟩ := gd_some e
        refine V_iast (pc := 48) dX1_walkAll_48 (of_decide_eq_true g17) (ix_in g18) ?_
        refine V_iinc (pc := 49) (i := 4) (u := v4 + (1 : Int32)) (lv' := [(4, .int (v4 + (1 : Int32))), (0, .ref v0), (1, .ref v1), (3, .int v3)]) dX1_walkAll_49 rfl rfl (by decide) rfl ?_
        refine V_goto (pc := 52) (tgt := 3) dX1_walkAll_52 (by decide) ?_
        cases e
        exact V_pick [1, 2, 3, 0] rfl (kI (v4 + (1 : Int32), setI h q7 (zI h q9 (v4).toNatClampNeg).toNatClampNeg (zI h q13 (v4).toNatClampNeg)) rfl)
set_option maxRecDepth 100000 in
def F_X1_walkAll_b55 (v4 : Int32) (h : Hp) : Option (Int32 × Hp) :=
  some (v4, h)
set_option maxHeartbeats 4000000 in
set_option maxRecDepth 100000 in
theorem r_X1_walkAll_b55 (v4 : Int32) (h : Hp) {x : Cx} {r : Int32} {hz : Hp} (e : F_X1_walkAll_b55 v4 h = some (r, hz)) (hF : Fin9 M_X1_walkAll x (some .int) (some (.int r)) hz) : V M_X1_walkAll x 0 55 [(4, .int v4)] [] h 0 0 := by
  unfold F_X1_walkAll_b55 at e
  refine V_iload (pc := 55) (i := 4) dX1_walkAll_55 rfl ?_
  cases e
  exact V_iret (pc := 57) dX1_walkAll_57 hF
set_option maxRecDepth 100000 in
def F_X1_walkAll_b0 (v0 : Nat) (v1 : Nat) (v2 : Int32) (v3 : Int32) (h : Hp) : Option (Int32 × Hp) :=
  ob (iter (fun z : Int32 × Hp => F_X1_walkAll_l3 v0 v1 v3 z.1 z.2) FU (v2, h)) (fun z => un2 z fun w22 h23 => F_X1_walkAll_b55 w22 h23)
set_option maxHeartbeats 4000000 in
set_option maxRecDepth 100000 in
theorem r_X1_walkAll_b0 (v0 : Nat) (v1 : Nat) (v2 : Int32) (v3 : Int32) (h : Hp) {x : Cx} {r : Int32} {hz : Hp} (e : F_X1_walkAll_b0 v0 v1 v2 v3 h = some (r, hz)) (hF : Fin9 M_X1_walkAll x (some .int) (some (.int r)) hz) : V M_X1_walkAll x 0 0 [(0, .ref v0), (1, .ref v1), (2, .int v2), (3, .int v3)] [] h 0 0 := by
  unfold F_X1_walkAll_b0 at e
  refine V_iload_n (pc := 0) (i := 2) dX1_walkAll_0 rfl rfl ?_
  refine V_istore (pc := 1) (i := 4) (lv' := [(4, .int v2), (0, .ref v0), (1, .ref v1), (2, .int v2), (3, .int v3)]) dX1_walkAll_1 (by decide) rfl ?_
  refine V_pick [1, 2, 4, 0] rfl ?_
  obtain ⟨y24, g25, e⟩ := ob_some e
  refine iter_V (P := fun z : Int32 × Hp => V M_X1_walkAll x 0 3 [(0, .ref v0), (1, .ref v1), (3, .int v3), (4, .int z.1)] [] z.2 0 0) (E := fun z : Int32 × Hp => V M_X1_walkAll x 0 55 [(4, .int z.1)] [] z.2 0 0) (fun z o e9 k1 k2 => r_X1_walkAll_l3 v0 v1 v3 z.1 z.2 e9 (fun z hz9 => k1 z hz9) (fun z hz9 => k2 _ hz9)) _ _ _ g25 ?_
  clear g25
  obtain ⟨w22, h23⟩ := y24
  replace e : (F_X1_walkAll_b55 w22 h23) = some (r, hz) := e
  show V M_X1_walkAll x 0 55 [(4, .int w22)] [] h23 0 0
  exact V_pick [0] rfl (r_X1_walkAll_b55 w22 h23 e hF)
def F_X1_walkAll (v0 : Nat) (v1 : Nat) (v2 : Int32) (v3 : Int32) (h : Hp) : Option (Int32 × Hp) := F_X1_walkAll_b0 v0 v1 v2 v3 h
theorem c_X1_walkAll {l : Launch} (v0 : Nat) (v1 : Nat) (v2 : Int32) (v3 : Int32) (h : Hp) {r : Int32} {hz : Hp} (e : F_X1_walkAll v0 v1 v2 v3 h = some (r, hz)) : Ct l yX1_walkAll M_X1_walkAll (some .int) 0 [.ref v0, .ref v1, .int v2, .int v3] h 0 0 (some (.int r)) hz :=
  Ct_of rfl rfl (fun q => by cases q) (Nat.le_of_ble_eq_true rfl) (fun x _ hF => V_pick [0, 1, 2, 3] rfl (r_X1_walkAll_b0 v0 v1 v2 v3 h e hF))
theorem dX1_direction_0 : decode cX1_direction 0 = .ok (.iload_n 0, 1) := by decide +kernel
theorem dX1_direction_1 : decode cX1_direction 1 = .ok (.iload_n 1, 1) := by decide +kernel
theorem dX1_direction_2 : decode cX1_direction 2 = .ok (.if_icmp .le 5, 3) := by decide +kernel
theorem dX1_direction_5 : decode cX1_direction 5 = .ok (.iconst 1, 1) := by decide +kernel
theorem dX1_direction_6 : decode cX1_direction 6 = .ok (.ireturn, 1) := by decide +kernel
theorem dX1_direction_7 : decode cX1_direction 7 = .ok (.iload_n 0, 1) := by decide +kernel
theorem dX1_direction_8 : decode cX1_direction 8 = .ok (.iload_n 1, 1) := by decide +kernel
theorem dX1_direction_9 : decode cX1_direction 9 = .ok (.ineg, 1) := by decide +kernel
theorem dX1_direction_10 : decode cX1_direction 10 = .ok (.if_icmp .ge 7, 3) := by decide +kernel
theorem dX1_direction_13 : decode cX1_direction 13 = .ok (.iconst (-1), 1) := by decide +kernel
theorem dX1_direction_14 : decode cX1_direction 14 = .ok (.goto 4, 3) := by decide +kernel
theorem dX1_direction_17 : decode cX1_direction 17 = .ok (.iconst 0, 1) := by decide +kernel
theorem dX1_direction_18 : decode cX1_direction 18 = .ok (.ireturn, 1) := by decide +kernel
set_option maxRecDepth 100000 in
def F_X1_direction_b18 (t0 : Int32) (h : Hp) : Option Int32 :=
  some t0
set_option maxHeartbeats 4000000 in
set_option maxRecDepth 100000 in
theorem r_X1_direction_b18 (t0 : Int32) (h : Hp) {x : Cx} {r : Int32} (e : F_X1_direction_b18 t0 h = some r) (hF : Fin9 M_X1_direction x (some .int) (some (.int r)) h) : V M_X1_direction x 0 18 [] [.int t0] h 0 0 := by
  unfold F_X1_direction_b18 at e
  cases e
  exact V_iret (pc := 18) dX1_direction_18 hF
set_option maxRecDepth 100000 in
def F_X1_direction_b0 (v0 : Int32) (v1 : Int32) (h : Hp) : Option Int32 :=
  (if v0 ≤ v1 then (if (0 - v1) ≤ v0 then F_X1_direction_b18 (0 : Int32) h else F_X1_direction_b18 (-1 : Int32) h) else some (1 : Int32))
set_option maxHeartbeats 4000000 in
set_option maxRecDepth 100000 in
theorem r_X1_direction_b0 (v0 : Int32) (v1 : Int32) (h : Hp) {x : Cx} {r : Int32} (e : F_X1_direction_b0 v0 v1 h = some r) (hF : Fin9 M_X1_direction x (some .int) (some (.int r)) h) : V M_X1_direction x 0 0 [(0, .int v0), (1, .int v1)] [] h 0 0 := by
  unfold F_X1_direction_b0 at e
  refine V_iload_n (pc := 0) (i := 0) dX1_direction_0 rfl rfl ?_
  refine V_iload_n (pc := 1) (i := 1) dX1_direction_1 rfl rfl ?_
  refine V_icmp_le (pc := 2) (tgt := 7) dX1_direction_2 (by decide) (fun c2 => ?_) (fun c2 => ?_)
  · rw [if_pos c2] at e
    refine V_pick [0, 1] rfl ?_
    refine V_iload_n (pc := 7) (i := 0) dX1_direction_7 rfl rfl ?_
    refine V_iload_n (pc := 8) (i := 1) dX1_direction_8 rfl rfl ?_
    refine V_ineg (pc := 9) dX1_direction_9 ?_
    refine V_icmp_ge (pc := 10) (tgt := 17) dX1_direction_10 (by decide) (fun c1 => ?_) (fun c1 => ?_)
    · rw [if_pos c1] at e
      refine V_pick [] rfl ?_
      refine V_iconst (pc := 17) (v := (0 : Int32)) dX1_direction_17 (by decide) ?_
      exact V_pick [] rfl (r_X1_direction_b18 (0 : Int32) h e hF)
    · rw [if_neg c1] at e
      refine V_pick [] rfl ?_
      refine V_iconst (pc := 13) (v := (-1 : Int32)) dX1_direction_13 (by decide) ?_
      refine V_goto (pc := 14) (tgt := 18) dX1_direction_14 (by decide) ?_
      exact V_pick [] rfl (r_X1_direction_b18 (-1 : Int32) h e hF)
  · rw [if_neg c2] at e
    refine V_pick [] rfl ?_
    refine V_iconst (pc := 5) (v := (1 : Int32)) dX1_direction_5 (by decide) ?_
    cases e
    exact V_iret (pc := 6) dX1_direction_6 hF
def F_X1_direction (v0 : Int32) (v1 : Int32) (h : Hp) : Option Int32 := F_X1_direction_b0 v0 v1 h
theorem c_X1_direction {l : Launch} (v0 : Int32) (v1 : Int32) (h : Hp) {r : Int32} (e : F_X1_direction v0 v1 h = some r) : Ct l yX1_direction M_X1_direction (some .int) 0 [.int v0, .int v1] h 0 0 (some (.int r)) h :=
  Ct_of rfl rfl (fun q => by cases q) (Nat.le_of_ble_eq_true rfl) (fun x _ hF => V_pick [0, 1] rfl (r_X1_direction_b0 v0 v1 h e hF))
theorem dX2_hasRoom_0 : decode cX2_hasRoom 0 = .ok (.iload_n 1, 1) := by decide +kernel
theorem dX2_hasRoom_1 : decode cX2_hasRoom 1 = .ok (.ifCond .lt 15, 3) := by decide +kernel
theorem dX2_hasRoom_4 : decode cX2_hasRoom 4 = .ok (.iload_n 1, 1) := by decide +kernel
theorem dX2_hasRoom_5 : decode cX2_hasRoom 5 = .ok (.aload_n 0, 1) := by decide +kernel
theorem dX2_hasRoom_6 : decode cX2_hasRoom 6 = .ok (.getfield 9, 3) := by decide +kernel
theorem dX2_hasRoom_9 : decode cX2_hasRoom 9 = .ok (.if_icmp .ge 7, 3) := by decide +kernel
theorem dX2_hasRoom_12 : decode cX2_hasRoom 12 = .ok (.iconst 1, 1) := by decide +kernel
theorem dX2_hasRoom_13 : decode cX2_hasRoom 13 = .ok (.goto 4, 3) := by decide +kernel
theorem dX2_hasRoom_16 : decode cX2_hasRoom 16 = .ok (.iconst 0, 1) := by decide +kernel
theorem dX2_hasRoom_17 : decode cX2_hasRoom 17 = .ok (.ireturn, 1) := by decide +kernel
set_option maxRecDepth 100000 in
def F_X2_hasRoom_b17 (t0 : Int32) (h : Hp) : Option Int32 :=
  gd (decide (t0 = 0 ∨ t0 = 1)) <| some t0
set_option maxHeartbeats 4000000 in
set_option maxRecDepth 100000 in
theorem r_X2_hasRoom_b17 (t0 : Int32) (h : Hp) {x : Cx} {r : Int32} (e : F_X2_hasRoom_b17 t0 h = some r) (hF : Fin9 M_X2_hasRoom x (some .boolean) (some (.int r)) h) : V M_X2_hasRoom x 0 17 [] [.int t0] h 0 0 := by
  unfold F_X2_hasRoom_b17 at e
  obtain ⟨g1, e⟩ := gd_some e
  cases e
  exact V_zret (pc := 17) dX2_hasRoom_17 (z01 (of_decide_eq_true g1)) hF
set_option maxRecDepth 100000 in
def F_X2_hasRoom_b16  (h : Hp) : Option Int32 :=
  F_X2_hasRoom_b17 (0 : Int32) h
set_option maxHeartbeats 4000000 in
set_option maxRecDepth 100000 in
theorem r_X2_hasRoom_b16  (h : Hp) {x : Cx} {r : Int32} (e : F_X2_hasRoom_b16  h = some r) (hF : Fin9 M_X2_hasRoom x (some .boolean) (some (.int r)) h) : V M_X2_hasRoom x 0 16 [] [] h 0 0 := by
  unfold F_X2_hasRoom_b16 at e
  refine V_iconst (pc := 16) (v := (0 : Int32)) dX2_hasRoom_16 (by decide) ?_
  exact V_pick [] rfl (r_X2_hasRoom_b17 (0 : Int32) h e hF)
set_option maxRecDepth 100000 in
def F_X2_hasRoom_b0 (v0 : Nat) (v1 : Int32) (h : Hp) : Option Int32 :=
  (if v1 < 0 then F_X2_hasRoom_b16 h else gd (decide (kd h v0 = 2)) <| (if (zI h v0 0) ≤ v1 then F_X2_hasRoom_b16 h else F_X2_hasRoom_b17 (1 : Int32) h))
set_option maxHeartbeats 4000000 in
set_option maxRecDepth 100000 in
theorem r_X2_hasRoom_b0 (v0 : Nat) (v1 : Int32) (h : Hp) {x : Cx} {r : Int32} (e : F_X2_hasRoom_b0 v0 v1 h = some r) (hF : Fin9 M_X2_hasRoom x (some .boolean) (some (.int r)) h) : V M_X2_hasRoom x 0 0 [(0, .ref v0), (1, .int v1)] [] h 0 0 := by
  unfold F_X2_hasRoom_b0 at e
  refine V_iload_n (pc := 0) (i := 1) dX2_hasRoom_0 rfl rfl ?_
  refine V_if_lt (pc := 1) (tgt := 16) dX2_hasRoom_1 (by decide) (fun c4 => ?_) (fun c4 => ?_)
  · rw [if_pos c4] at e
    exact V_pick [] rfl (r_X2_hasRoom_b16 h e hF)
  · rw [if_neg c4] at e
    refine V_pick [0, 1] rfl ?_
    refine V_iload_n (pc := 4) (i := 1) dX2_hasRoom_4 rfl rfl ?_
    refine V_aload_n (pc := 5) (i := 0) dX2_hasRoom_5 rfl rfl ?_
    obtain ⟨g2, e⟩ := gd_some e
    refine V_getI (pc := 6) (ci := 2) (k := 0) dX2_hasRoom_6 fl_X2_9 rfl (of_decide_eq_true g2) ?_
    refine V_icmp_ge (pc := 9) (tgt := 16) dX2_hasRoom_9 (by decide) (fun c3 => ?_) (fun c3 => ?_)
    · rw [if_pos c3] at e
      exact V_pick [] rfl (r_X2_hasRoom_b16 h e hF)
    · rw [if_neg c3] at e
      refine V_pick [] rfl ?_
      refine V_iconst (pc := 12) (v := (1 : Int32)) dX2_hasRoom_12 (by decide) ?_
      refine V_goto (pc := 13) (tgt := 17) dX2_hasRoom_13 (by decide) ?_
      exact V_pick [] rfl (r_X2_hasRoom_b17 (1 : Int32) h e hF)
def F_X2_hasRoom (v0 : Nat) (v1 : Int32) (h : Hp) : Option Int32 := F_X2_hasRoom_b0 v0 v1 h
theorem c_X2_hasRoom {l : Launch} (v0 : Nat) (v1 : Int32) (h : Hp) {r : Int32} (e : F_X2_hasRoom v0 v1 h = some r) : Ct l yX2_hasRoom M_X2_hasRoom (some .boolean) 0 [.ref v0, .int v1] h 0 0 (some (.int r)) h :=
  Ct_of rfl rfl (fun q => by cases q) (Nat.le_of_ble_eq_true rfl) (fun x _ hF => V_pick [0, 1] rfl (r_X2_hasRoom_b0 v0 v1 h e hF))
theorem dX2_hasGuest_0 : decode cX2_hasGuest 0 = .ok (.iload_n 1, 1) := by decide +kernel
theorem dX2_hasGuest_1 : decode cX2_hasGuest 1 = .ok (.ifCond .lt 15, 3) := by decide +kernel
theorem dX2_hasGuest_4 : decode cX2_hasGuest 4 = .ok (.iload_n 1, 1) := by decide +kernel
theorem dX2_hasGuest_5 : decode cX2_hasGuest 5 = .ok (.aload_n 0, 1) := by decide +kernel
theorem dX2_hasGuest_6 : decode cX2_hasGuest 6 = .ok (.getfield 28, 3) := by decide +kernel
theorem dX2_hasGuest_9 : decode cX2_hasGuest 9 = .ok (.if_icmp .ge 7, 3) := by decide +kernel
theorem dX2_hasGuest_12 : decode cX2_hasGuest 12 = .ok (.iconst 1, 1) := by decide +kernel
theorem dX2_hasGuest_13 : decode cX2_hasGuest 13 = .ok (.goto 4, 3) := by decide +kernel
theorem dX2_hasGuest_16 : decode cX2_hasGuest 16 = .ok (.iconst 0, 1) := by decide +kernel
theorem dX2_hasGuest_17 : decode cX2_hasGuest 17 = .ok (.ireturn, 1) := by decide +kernel
set_option maxRecDepth 100000 in
def F_X2_hasGuest_b17 (t0 : Int32) (h : Hp) : Option Int32 :=
  gd (decide (t0 = 0 ∨ t0 = 1)) <| some t0
set_option maxHeartbeats 4000000 in
set_option maxRecDepth 100000 in
theorem r_X2_hasGuest_b17 (t0 : Int32) (h : Hp) {x : Cx} {r : Int32} (e : F_X2_hasGuest_b17 t0 h = some r) (hF : Fin9 M_X2_hasGuest x (some .boolean) (some (.int r)) h) : V M_X2_hasGuest x 0 17 [] [.int t0] h 0 0 := by
  unfold F_X2_hasGuest_b17 at e
  obtain ⟨g1, e⟩ := gd_some e
  cases e
  exact V_zret (pc := 17) dX2_hasGuest_17 (z01 (of_decide_eq_true g1)) hF
set_option maxRecDepth 100000 in
def F_X2_hasGuest_b16  (h : Hp) : Option Int32 :=
  F_X2_hasGuest_b17 (0 : Int32) h
set_option maxHeartbeats 4000000 in
set_option maxRecDepth 100000 in
theorem r_X2_hasGuest_b16  (h : Hp) {x : Cx} {r : Int32} (e : F_X2_hasGuest_b16  h = some r) (hF : Fin9 M_X2_hasGuest x (some .boolean) (some (.int r)) h) : V M_X2_hasGuest x 0 16 [] [] h 0 0 := by
  unfold F_X2_hasGuest_b16 at e
  refine V_iconst (pc := 16) (v := (0 : Int32)) dX2_hasGuest_16 (by decide) ?_
  exact V_pick [] rfl (r_X2_hasGuest_b17 (0 : Int32) h e hF)
set_option maxRecDepth 100000 in
def F_X2_hasGuest_b0 (v0 : Nat) (v1 : Int32) (h : Hp) : Option Int32 :=
  (if v1 < 0 then F_X2_hasGuest_b16 h else gd (decide (kd h v0 = 2)) <| (if (zI h v0 5) ≤ v1 then F_X2_hasGuest_b16 h else F_X2_hasGuest_b17 (1 : Int32) h))
set_option maxHeartbeats 4000000 in
set_option maxRecDepth 100000 in
theorem r_X2_hasGuest_b0 (v0 : Nat) (v1 : Int32) (h : Hp) {x : Cx} {r : Int32} (e : F_X2_hasGuest_b0 v0 v1 h = some r) (hF : Fin9 M_X2_hasGuest x (some .boolean) (some (.int r)) h) : V M_X2_hasGuest x 0 0 [(0, .ref v0), (1, .int v1)] [] h 0 0 := by
  unfold F_X2_hasGuest_b0 at e
  refine V_iload_n (pc := 0) (i := 1) dX2_hasGuest_0 rfl rfl ?_
  refine V_if_lt (pc := 1) (tgt := 16) dX2_hasGuest_1 (by decide) (fun c4 => ?_) (fun c4 => ?_)
  · rw [if_pos c4] at e
    exact V_pick [] rfl (r_X2_hasGuest_b16 h e hF)
  · rw [if_neg c4] at e
    refine V_pick [0, 1] rfl ?_
    refine V_iload_n (pc := 4) (i := 1) dX2_hasGuest_4 rfl rfl ?_
    refine V_aload_n (pc := 5) (i := 0) dX2_hasGuest_5 rfl rfl ?_
    obtain ⟨g2, e⟩ := gd_some e
    refine V_getI (pc := 6) (ci := 2) (k := 5) dX2_hasGuest_6 fl_X2_28 rfl (of_decide_eq_true g2) ?_
    refine V_icmp_ge (pc := 9) (tgt := 16) dX2_hasGuest_9 (by decide) (fun c3 => ?_) (fun c3 => ?_)
    · rw [if_pos c3] at e
      exact V_pick [] rfl (r_X2_hasGuest_b16 h e hF)
    · rw [if_neg c3] at e
      refine V_pick [] rfl ?_
      refine V_iconst (pc := 12) (v := (1 : Int32)) dX2_hasGuest_12 (by decide) ?_
      refine V_goto (pc := 13) (tgt := 17) dX2_hasGuest_13 (by decide) ?_
      exact V_pick [] rfl (r_X2_hasGuest_b17 (1 : Int32) h e hF)
def F_X2_hasGuest (v0 : Nat) (v1 : Int32) (h : Hp) : Option Int32 := F_X2_hasGuest_b0 v0 v1 h
theorem c_X2_hasGuest {l : Launch} (v0 : Nat) (v1 : Int32) (h : Hp) {r : Int32} (e : F_X2_hasGuest v0 v1 h = some r) : Ct l yX2_hasGuest M_X2_hasGuest (some .boolean) 0 [.ref v0, .int v1] h 0 0 (some (.int r)) h :=
  Ct_of rfl rfl (fun q => by cases q) (Nat.le_of_ble_eq_true rfl) (fun x _ hF => V_pick [0, 1] rfl (r_X2_hasGuest_b0 v0 v1 h e hF))
theorem dX2_hasReading_0 : decode cX2_hasReading 0 = .ok (.iload_n 1, 1) := by decide +kernel
theorem dX2_hasReading_1 : decode cX2_hasReading 1 = .ok (.ifCond .lt 15, 3) := by decide +kernel
theorem dX2_hasReading_4 : decode cX2_hasReading 4 = .ok (.iload_n 1, 1) := by decide +kernel
theorem dX2_hasReading_5 : decode cX2_hasReading 5 = .ok (.aload_n 0, 1) := by decide +kernel
theorem dX2_hasReading_6 : decode cX2_hasReading 6 = .ok (.getfield 75, 3) := by decide +kernel
theorem dX2_hasReading_9 : decode cX2_hasReading 9 = .ok (.if_icmp .ge 7, 3) := by decide +kernel
theorem dX2_hasReading_12 : decode cX2_hasReading 12 = .ok (.iconst 1, 1) := by decide +kernel
theorem dX2_hasReading_13 : decode cX2_hasReading 13 = .ok (.goto 4, 3) := by decide +kernel
theorem dX2_hasReading_16 : decode cX2_hasReading 16 = .ok (.iconst 0, 1) := by decide +kernel
theorem dX2_hasReading_17 : decode cX2_hasReading 17 = .ok (.ireturn, 1) := by decide +kernel
set_option maxRecDepth 100000 in
def F_X2_hasReading_b17 (t0 : Int32) (h : Hp) : Option Int32 :=
  gd (decide (t0 = 0 ∨ t0 = 1)) <| some t0
set_option maxHeartbeats 4000000 in
set_option maxRecDepth 100000 in
theorem r_X2_hasReading_b17 (t0 : Int32) (h : Hp) {x : Cx} {r : Int32} (e : F_X2_hasReading_b17 t0 h = some r) (hF : Fin9 M_X2_hasReading x (some .boolean) (some (.int r)) h) : V M_X2_hasReading x 0 17 [] [.int t0] h 0 0 := by
  unfold F_X2_hasReading_b17 at e
  obtain ⟨g1, e⟩ := gd_some e
  cases e
  exact V_zret (pc := 17) dX2_hasReading_17 (z01 (of_decide_eq_true g1)) hF
set_option maxRecDepth 100000 in
def F_X2_hasReading_b16  (h : Hp) : Option Int32 :=
  F_X2_hasReading_b17 (0 : Int32) h
set_option maxHeartbeats 4000000 in
set_option maxRecDepth 100000 in
theorem r_X2_hasReading_b16  (h : Hp) {x : Cx} {r : Int32} (e : F_X2_hasReading_b16  h = some r) (hF : Fin9 M_X2_hasReading x (some .boolean) (some (.int r)) h) : V M_X2_hasReading x 0 16 [] [] h 0 0 := by
  unfold F_X2_hasReading_b16 at e
  refine V_iconst (pc := 16) (v := (0 : Int32)) dX2_hasReading_16 (by decide) ?_
  exact V_pick [] rfl (r_X2_hasReading_b17 (0 : Int32) h e hF)
set_option maxRecDepth 100000 in
def F_X2_hasReading_b0 (v0 : Nat) (v1 : Int32) (h : Hp) : Option Int32 :=
  (if v1 < 0 then F_X2_hasReading_b16 h else gd (decide (kd h v0 = 2)) <| (if (zI h v0 17) ≤ v1 then F_X2_hasReading_b16 h else F_X2_hasReading_b17 (1 : Int32) h))
set_option maxHeartbeats 4000000 in
set_option maxRecDepth 100000 in
theorem r_X2_hasReading_b0 (v0 : Nat) (v1 : Int32) (h : Hp) {x : Cx} {r : Int32} (e : F_X2_hasReading_b0 v0 v1 h = some r) (hF : Fin9 M_X2_hasReading x (some .boolean) (some (.int r)) h) : V M_X2_hasReading x 0 0 [(0, .ref v0), (1, .int v1)] [] h 0 0 := by
  unfold F_X2_hasReading_b0 at e
  refine V_iload_n (pc := 0) (i := 1) dX2_hasReading_0 rfl rfl ?_
  refine V_if_lt (pc := 1) (tgt := 16) dX2_hasReading_1 (by decide) (fun c4 => ?_) (fun c4 => ?_)
  · rw [if_pos c4] at e
    exact V_pick [] rfl (r_X2_hasReading_b16 h e hF)
  · rw [if_neg c4] at e
    refine V_pick [0, 1] rfl ?_
    refine V_iload_n (pc := 4) (i := 1) dX2_hasReading_4 rfl rfl ?_
    refine V_aload_n (pc := 5) (i := 0) dX2_hasReading_5 rfl rfl ?_
    obtain ⟨g2, e⟩ := gd_some e
    refine V_getI (pc := 6) (ci := 2) (k := 17) dX2_hasReading_6 fl_X2_75 rfl (of_decide_eq_true g2) ?_
    refine V_icmp_ge (pc := 9) (tgt := 16) dX2_hasReading_9 (by decide) (fun c3 => ?_) (fun c3 => ?_)
    · rw [if_pos c3] at e
      exact V_pick [] rfl (r_X2_hasReading_b16 h e hF)
    · rw [if_neg c3] at e
      refine V_pick [] rfl ?_
      refine V_iconst (pc := 12) (v := (1 : Int32)) dX2_hasReading_12 (by decide) ?_
      refine V_goto (pc := 13) (tgt := 17) dX2_hasReading_13 (by decide) ?_
      exact V_pick [] rfl (r_X2_hasReading_b17 (1 : Int32) h e hF)
def F_X2_hasReading (v0 : Nat) (v1 : Int32) (h : Hp) : Option Int32 := F_X2_hasReading_b0 v0 v1 h
theorem c_X2_hasReading {l : Launch} (v0 : Nat) (v1 : Int32) (h : Hp) {r : Int32} (e : F_X2_hasReading v0 v1 h = some r) : Ct l yX2_hasReading M_X2_hasReading (some .boolean) 0 [.ref v0, .int v1] h 0 0 (some (.int r)) h :=
  Ct_of rfl rfl (fun q => by cases q) (Nat.le_of_ble_eq_true rfl) (fun x _ hF => V_pick [0, 1] rfl (r_X2_hasReading_b0 v0 v1 h e hF))
theorem dX2_addRoom_0 : decode cX2_addRoom 0 = .ok (.aload_n 0, 1) := by decide +kernel
theorem dX2_addRoom_1 : decode cX2_addRoom 1 = .ok (.getfield 9, 3) := by decide +kernel
theorem dX2_addRoom_4 : decode cX2_addRoom 4 = .ok (.bipush 8, 2) := by decide +kernel
theorem dX2_addRoom_6 : decode cX2_addRoom 6 = .ok (.if_icmp .ge 53, 3) := by decide +kernel
theorem dX2_addRoom_9 : decode cX2_addRoom 9 = .ok (.aload_n 0, 1) := by decide +kernel
theorem dX2_addRoom_10 : decode cX2_addRoom 10 = .ok (.getfield 15, 3) := by decide +kernel
theorem dX2_addRoom_13 : decode cX2_addRoom 13 = .ok (.aload_n 0, 1) := by decide +kernel
theorem dX2_addRoom_14 : decode cX2_addRoom 14 = .ok (.getfield 9, 3) := by decide +kernel
theorem dX2_addRoom_17 : decode cX2_addRoom 17 = .ok (.iload_n 1, 1) := by decide +kernel
theorem dX2_addRoom_18 : decode cX2_addRoom 18 = .ok (.iastore, 1) := by decide +kernel
theorem dX2_addRoom_19 : decode cX2_addRoom 19 = .ok (.aload_n 0, 1) := by decide +kernel
theorem dX2_addRoom_20 : decode cX2_addRoom 20 = .ok (.getfield 19, 3) := by decide +kernel
theorem dX2_addRoom_23 : decode cX2_addRoom 23 = .ok (.aload_n 0, 1) := by decide +kernel
theorem dX2_addRoom_24 : decode cX2_addRoom 24 = .ok (.getfield 9, 3) := by decide +kernel
theorem dX2_addRoom_27 : decode cX2_addRoom 27 = .ok (.iload_n 2, 1) := by decide +kernel
theorem dX2_addRoom_28 : decode cX2_addRoom 28 = .ok (.iastore, 1) := by decide +kernel
theorem dX2_addRoom_29 : decode cX2_addRoom 29 = .ok (.aload_n 0, 1) := by decide +kernel
theorem dX2_addRoom_30 : decode cX2_addRoom 30 = .ok (.getfield 22, 3) := by decide +kernel
theorem dX2_addRoom_33 : decode cX2_addRoom 33 = .ok (.aload_n 0, 1) := by decide +kernel
theorem dX2_addRoom_34 : decode cX2_addRoom 34 = .ok (.getfield 9, 3) := by decide +kernel
theorem dX2_addRoom_37 : decode cX2_addRoom 37 = .ok (.iload_n 3, 1) := by decide +kernel
theorem dX2_addRoom_38 : decode cX2_addRoom 38 = .ok (.iastore, 1) := by decide +kernel
theorem dX2_addRoom_39 : decode cX2_addRoom 39 = .ok (.aload_n 0, 1) := by decide +kernel
theorem dX2_addRoom_40 : decode cX2_addRoom 40 = .ok (.getfield 25, 3) := by decide +kernel
theorem dX2_addRoom_43 : decode cX2_addRoom 43 = .ok (.aload_n 0, 1) := by decide +kernel
theorem dX2_addRoom_44 : decode cX2_addRoom 44 = .ok (.getfield 9, 3) := by decide +kernel
theorem dX2_addRoom_47 : decode cX2_addRoom 47 = .ok (.iconst 0, 1) := by decide +kernel
theorem dX2_addRoom_48 : decode cX2_addRoom 48 = .ok (.iastore, 1) := by decide +kernel
theorem dX2_addRoom_49 : decode cX2_addRoom 49 = .ok (.aload_n 0, 1) := by decide +kernel
theorem dX2_addRoom_50 : decode cX2_addRoom 50 = .ok (.dup, 1) := by decide +kernel
theorem dX2_addRoom_51 : decode cX2_addRoom 51 = .ok (.getfield 9, 3) := by decide +kernel
theorem dX2_addRoom_54 : decode cX2_addRoom 54 = .ok (.iconst 1, 1) := by decide +kernel
theorem dX2_addRoom_55 : decode cX2_addRoom 55 = .ok (.iadd, 1) := by decide +kernel
theorem dX2_addRoom_56 : decode cX2_addRoom 56 = .ok (.putfield 9, 3) := by decide +kernel
theorem dX2_addRoom_59 : decode cX2_addRoom 59 = .ok (.return_, 1) := by decide +kernel
set_option maxRecDepth 100000 in
def F_X2_addRoom_b59  (h : Hp) : Option (Unit × Hp) :=
  some ((), h)
set_option maxHeartbeats 4000000 in
set_option maxRecDepth 100000 in
theorem r_X2_addRoom_b59  (h : Hp) {x : Cx} {r : Unit} {hz : Hp} (e : F_X2_addRoom_b59  h = some (r, hz)) (hF : Fin9 M_X2_addRoom x none none hz) : V M_X2_addRoom x 0 59 [] [] h 0 0 := by
  unfold F_X2_addRoom_b59 at e
  cases e
  exact V_vret (pc := 59) dX2_addRoom_59 hF
set_option maxRecDepth 100000 in
def F_X2_addRoom_b0 (v0 : Nat) (v1 : Int32) (v2 : Int32) (v3 : Int32) (h : Hp) : Option (Unit × Hp) :=
  gd (decide (kd h v0 = 2)) <| (if (8 : Int32) ≤ (zI h v0 0) then F_X2_addRoom_b59 h else ob (zR h v0 1) fun q2 => gd (decide (kd h q2 = 13)) <| gd (ix (zI h v0 0) (zl h q2)) <| ob (zR (setI h q2 (zI h v0 0).toNatClampNeg v1) v0 2) fun q6 => gd (decide (kd (setI h q2 (zI h v0 0).toNatClampNeg v1) q6 = 13)) <| gd (ix (zI (setI h q2 (zI h v0 0).toNatClampNeg v1) v0 0) (zl (setI h q2 (zI h v0 0).toNatClampNeg v1) q6)) <| ob (zR (setI (setI h q2 (zI h v0 0).toNatClampNeg v1) q6 (zI (setI h q2 (zI h v0 0).toNatClampNeg v1) v0 0).toNatClampNeg v2) v0 3) fun q10 => gd (decide (kd (setI (setI h q2 (zI h v0 0).toNatClampNeg v1) q6 (zI (setI h q2 (zI h v0 0).toNatClampNeg v1) v0 0).toNatClampNeg v2) q10 = 13)) <| gd (ix (zI (setI (setI h q2 (zI h v0 0).toNatClampNeg v1) q6 (zI (setI h q2 (zI h v0 0).toNatClampNeg v1) v0 0).toNatClampNeg v2) v0 0) (zl (setI (setI h q2 (zI h v0 0).toNatClampNeg v1) q6 (zI (setI h q2 (zI h v0 0).toNatClampNeg v1) v0 0).toNatClampNeg v2) q10)) <| ob (some (setI (setI (setI h q2 (zI h v0 0).toNatClampNeg v1) q6 (zI (setI h q2 (zI h v0 0).toNatClampNeg v1) v0 0).toNatClampNeg v2) q10 (zI (setI (setI h q2 (zI h v0 0).toNatClampNeg v1) q6 (zI (setI h q2 (zI h v0 0).toNatClampNeg v1) v0 0).toNatClampNeg v2) v0 0).toNatClampNeg v3)) fun h14 => ob (zR h14 v0 4) fun q20 => gd (decide (kd h14 q20 = 13)) <| gd (ix (zI h14 v0 0) (zl h14 q20)) <| ob (some (setI (setI h14 q20 (zI h14 v0 0).toNatClampNeg (0 : Int32)) v0 0 ((zI (setI h14 q20 (zI h14 v0 0).toNatClampNeg (0 : Int32)) v0 0) + (1 : Int32)))) fun h24 => F_X2_addRoom_b59 h24)
set_option maxHeartbeats 4000000 in
set_option maxRecDepth 100000 in
theorem r_X2_addRoom_b0 (v0 : Nat) (v1 : Int32) (v2 : Int32) (v3 : Int32) (h : Hp) {x : Cx} {r : Unit} {hz : Hp} (e : F_X2_addRoom_b0 v0 v1 v2 v3 h = some (r, hz)) (hF : Fin9 M_X2_addRoom x none none hz) : V M_X2_addRoom x 0 0 [(0, .ref v0), (1, .int v1), (2, .int v2), (3, .int v3)] [] h 0 0 := by
  unfold F_X2_addRoom_b0 at e
  refine V_aload_n (pc := 0) (i := 0) dX2_addRoom_0 rfl rfl ?_
  obtain ⟨g1, e⟩ := gd_some e
  refine V_getI (pc := 1) (ci := 2) (k := 0) dX2_addRoom_1 fl_X2_9 rfl (of_decide_eq_true g1) ?_
  refine V_bipush (pc := 4) (v := (8 : Int32)) dX2_addRoom_4 (by decide) ?_
  refine V_icmp_ge (pc := 6) (tgt := 59) dX2_addRoom_6 (by decide) (fun c31 => ?_) (fun c31 => ?_)
  · rw [if_pos c31] at e
    exact V_pick [] rfl (r_X2_addRoom_b59 h e hF)
  · rw [if_neg c31] at e
    refine V_pick [0, 1, 2, 3] rfl ?_
    refine V_aload_n (pc := 9) (i := 0) dX2_addRoom_9 rfl rfl ?_
    obtain ⟨q2, g3, e⟩ := ob_some e
    refine V_getR (pc := 10) (ci := 2) (k := 1) (b := q2) dX2_addRoom_10 fl_X2_15 rfl (of_decide_eq_true g1) g3 ?_
    refine V_aload_n (pc := 13) (i := 0) dX2_addRoom_13 rfl rfl ?_
    refine V_getI (pc := 14) (ci := 2) (k := 0) dX2_addRoom_14 fl_X2_9 rfl (of_decide_eq_true g1) ?_
    refine V_iload_n (pc := 17) (i := 1) dX2_addRoom_17 rfl rfl ?_
    obtain ⟨g4, e⟩ := gd_some e
    obtain ⟨g5, e⟩ := gd_some e
    refine V_iast (pc := 18) dX2_addRoom_18 (of_decide_eq_true g4) (ix_in g5) ?_
    refine V_aload_n (pc := 19) (i := 0) dX2_addRoom_19 rfl rfl ?_
    obtain ⟨q6, g7, e⟩ := ob_some e
    refine V_getR (pc := 20) (ci := 2) (k := 2) (b := q6) dX2_addRoom_20 fl_X2_19 rfl (kd_sI (of_decide_eq_true g1)) g7 ?_
    refine V_aload_n (pc := 23) (i := 0) dX2_addRoom_23 rfl rfl ?_
    refine V_getI (pc := 24) (ci := 2) (k := 0) dX2_addRoom_24 fl_X2_9 rfl (kd_sI (of_decide_eq_true g1)) ?_
    refine V_iload_n (pc := 27) (i := 2) dX2_addRoom_27 rfl rfl ?_
    obtain ⟨g8, e⟩ := gd_some e
    obtain ⟨g9, e⟩ := gd_some e
    refine V_iast (pc := 28) dX2_addRoom_28 (of_decide_eq_true g8) (ix_in g9) ?_
    refine V_aload_n (pc := 29) (i := 0) dX2_addRoom_29 rfl rfl ?_
    obtain ⟨q10, g11, e⟩ := ob_some e
    refine V_getR (pc := 30) (ci := 2) (k := 3) (b := q10) dX2_addRoom_30 fl_X2_22 rfl (kd_sI (kd_sI (of_decide_eq_true g1))) g11 ?_
    refine V_aload_n (pc := 33) (i := 0) dX2_addRoom_33 rfl rfl ?_
    refine V_getI (pc := 34) (ci := 2) (k := 0) dX2_addRoom_34 fl_X2_9 rfl (kd_sI (kd_sI (of_decide_eq_true g1))) ?_
    refine V_iload_n (pc := 37) (i := 3) dX2_addRoom_37 rfl rfl ?_
    obtain ⟨g12, e⟩ := gd_some e
    obtain ⟨g13, e⟩ := gd_some e
    refine V_iast (pc := 38) dX2_addRoom_38 (of_decide_eq_true g12) (ix_in g13) ?_
    obtain ⟨h14, g15, e⟩ := ob_some e
    refine V_hp (Option.some.inj g15) ?_
    have k16 : kd h14 v0 = 2 := kd_eq (h := (setI (setI (setI h q2 (zI h v0 0).toNatClampNeg v1) q6 (zI (setI h q2 (zI h v0 0).toNatClampNeg v1) v0 0).toNatClampNeg v2) q10 (zI (setI (setI h q2 (zI h v0 0).toNatClampNeg v1) q6 (zI (setI h q2 (zI h v0 0).toNatClampNeg v1) v0 0).toNatClampNeg v2) v0 0).toNatClampNeg v3)) (Option.some.inj g15) (kd_sI (kd_sI (kd_sI (of_decide_eq_true g1))))
    have k17 : kd h14 q2 = 13 := kd_eq (h := (setI (setI (setI h q2 (zI h v0 0).toNatClampNeg v1) q6 (zI (setI h q2 (zI h v0 0).toNatClampNeg v1) v0 0).toNatClampNeg v2) q10 (zI (setI (setI h q2 (zI h v0 0).toNatClampNeg v1) q6 (zI (setI h q2 (zI h v0 0).toNatClampNeg v1) v0 0).toNatClampNeg v2) v0 0).toNatClampNeg v3)) (Option.some.inj g15) (kd_sI (kd_sI (kd_sI (of_decide_eq_true g4))))
    have k18 : kd h14 q6 = 13 := kd_eq (h := (setI (setI (setI h q2 (zI h v0 0).toNatClampNeg v1) q6 (zI (setI h q2 (zI h v0 0).toNatClampNeg v1) v0 0).toNatClampNeg v2) q10 (zI (setI (setI h q2 (zI h v0 0).toNatClampNeg v1) q6 (zI (setI h q2 (zI h v0 0).toNatClampNeg v1) v0 0).toNatClampNeg v2) v0 0).toNatClampNeg v3)) (Option.some.inj g15) (kd_sI (kd_sI (of_decide_eq_true g8)))
    have k19 : kd h14 q10 = 13 := kd_eq (h := (setI (setI (setI h q2 (zI h v0 0).toNatClampNeg v1) q6 (zI (setI h q2 (zI h v0 0).toNatClampNeg v1) v0 0).toNatClampNeg v2) q10 (zI (setI (setI h q2 (zI h v0 0).toNatClampNeg v1) q6 (zI (setI h q2 (zI h v0 0).toNatClampNeg v1) v0 0).toNatClampNeg v2) v0 0).toNatClampNeg v3)) (Option.some.inj g15) (kd_sI (of_decide_eq_true g12))
    refine V_aload_n (pc := 39) (i := 0) dX2_addRoom_39 rfl rfl ?_
    obtain ⟨q20, g21, e⟩ := ob_some e
    refine V_getR (pc := 40) (ci := 2) (k := 4) (b := q20) dX2_addRoom_40 fl_X2_25 rfl k16 g21 ?_
    refine V_aload_n (pc := 43) (i := 0) dX2_addRoom_43 rfl rfl ?_
    refine V_getI (pc := 44) (ci := 2) (k := 0) dX2_addRoom_44 fl_X2_9 rfl k16 ?_
    refine V_iconst (pc := 47) (v := (0 : Int32)) dX2_addRoom_47 (by decide) ?_
    obtain ⟨g22, e⟩ := gd_some e
    obtain ⟨g23, e⟩ := gd_some e
    refine V_iast (pc := 48) dX2_addRoom_48 (of_decide_eq_true g22) (ix_in g23) ?_
    refine V_aload_n (pc := 49) (i := 0) dX2_addRoom_49 rfl rfl ?_
    refine V_dup (pc := 50) dX2_addRoom_50 rfl ?_
    refine V_getI (pc := 51) (ci := 2) (k := 0) dX2_addRoom_51 fl_X2_9 rfl (kd_sI k16) ?_
    refine V_iconst (pc := 54) (v := (1 : Int32)) dX2_addRoom_54 (by decide) ?_
    refine V_iadd (pc := 55) dX2_addRoom_55 ?_
    refine V_putI (pc := 56) (ci := 2) (k := 0) dX2_addRoom_56 fp_X2_9 rfl (kd_sI k16) ?_
    obtain ⟨h24, g25, e⟩ := ob_some e
    refine V_hp (Option.some.inj g25) ?_
    have k26 : kd h24 v0 = 2 := kd_eq (h := (setI (setI h14 q20 (zI h14 v0 0).toNatClampNeg (0 : Int32)) v0 0 ((zI (setI h14 q20 (zI h14 v0 0).toNatClampNeg (0 : Int32)) v0 0) + (1 : Int32)))) (Option.some.inj g25) (kd_sI (kd_sI k16))
    have k27 : kd h24 q2 = 13 := kd_eq (h := (setI (setI h14 q20 (zI h14 v0 0).toNatClampNeg (0 : Int32)) v0 0 ((zI (setI h14 q20 (zI h14 v0 0).toNatClampNeg (0 : Int32)) v0 0) + (1 : Int32)))) (Option.some.inj g25) (kd_sI (kd_sI k17))
    have k28 : kd h24 q6 = 13 := kd_eq (h := (setI (setI h14 q20 (zI h14 v0 0).toNatClampNeg (0 : Int32)) v0 0 ((zI (setI h14 q20 (zI h14 v0 0).toNatClampNeg (0 : Int32)) v0 0) + (1 : Int32)))) (Option.some.inj g25) (kd_sI (kd_sI k18))
    have k29 : kd h24 q10 = 13 := kd_eq (h := (setI (setI h14 q20 (zI h14 v0 0).toNatClampNeg (0 : Int32)) v0 0 ((zI (setI h14 q20 (zI h14 v0 0).toNatClampNeg (0 : Int32)) v0 0) + (1 : Int32)))) (Option.some.inj g25) (kd_sI (kd_sI k19))
    have k30 : kd h24 q20 = 13 := kd_eq (h := (setI (setI h14 q20 (zI h14 v0 0).toNatClampNeg (0 : Int32)) v0 0 ((zI (setI h14 q20 (zI h14 v0 0).toNatClampNeg (0 : Int32)) v0 0) + (1 : Int32)))) (Option.some.inj g25) (kd_sI (kd_sI (of_decide_eq_true g22)))
    exact V_pick [] rfl (r_X2_addRoom_b59 h24 e hF)
def F_X2_addRoom (v0 : Nat) (v1 : Int32) (v2 : Int32) (v3 : Int32) (h : Hp) : Option (Unit × Hp) := F_X2_addRoom_b0 v0 v1 v2 v3 h
theorem c_X2_addRoom {l : Launch} (v0 : Nat) (v1 : Int32) (v2 : Int32) (v3 : Int32) (h : Hp) {r : Unit} {hz : Hp} (e : F_X2_addRoom v0 v1 v2 v3 h = some (r, hz)) : Ct l yX2_addRoom M_X2_addRoom none 0 [.ref v0, .int v1, .int v2, .int v3] h 0 0 none hz :=
  Ct_of rfl rfl (fun q => by cases q) (Nat.le_of_ble_eq_true rfl) (fun x _ hF => V_pick [0, 1, 2, 3] rfl (r_X2_addRoom_b0 v0 v1 v2 v3 h e hF))
theorem dX2_addGuest_0 : decode cX2_addGuest 0 = .ok (.aload_n 0, 1) := by decide +kernel
theorem dX2_addGuest_1 : decode cX2_addGuest 1 = .ok (.getfield 28, 3) := by decide +kernel
theorem dX2_addGuest_4 : decode cX2_addGuest 4 = .ok (.iconst 5, 1) := by decide +kernel
theorem dX2_addGuest_5 : decode cX2_addGuest 5 = .ok (.if_icmp .ge 59, 3) := by decide +kernel
theorem dX2_addGuest_8 : decode cX2_addGuest 8 = .ok (.aload_n 0, 1) := by decide +kernel
theorem dX2_addGuest_9 : decode cX2_addGuest 9 = .ok (.getfield 31, 3) := by decide +kernel
theorem dX2_addGuest_12 : decode cX2_addGuest 12 = .ok (.aload_n 0, 1) := by decide +kernel
theorem dX2_addGuest_13 : decode cX2_addGuest 13 = .ok (.getfield 28, 3) := by decide +kernel
theorem dX2_addGuest_16 : decode cX2_addGuest 16 = .ok (.iload_n 1, 1) := by decide +kernel
theorem dX2_addGuest_17 : decode cX2_addGuest 17 = .ok (.iastore, 1) := by decide +kernel
theorem dX2_addGuest_18 : decode cX2_addGuest 18 = .ok (.aload_n 0, 1) := by decide +kernel
theorem dX2_addGuest_19 : decode cX2_addGuest 19 = .ok (.getfield 34, 3) := by decide +kernel
theorem dX2_addGuest_22 : decode cX2_addGuest 22 = .ok (.aload_n 0, 1) := by decide +kernel
theorem dX2_addGuest_23 : decode cX2_addGuest 23 = .ok (.getfield 28, 3) := by decide +kernel
theorem dX2_addGuest_26 : decode cX2_addGuest 26 = .ok (.iload_n 2, 1) := by decide +kernel
theorem dX2_addGuest_27 : decode cX2_addGuest 27 = .ok (.iastore, 1) := by decide +kernel
theorem dX2_addGuest_28 : decode cX2_addGuest 28 = .ok (.aload_n 0, 1) := by decide +kernel
theorem dX2_addGuest_29 : decode cX2_addGuest 29 = .ok (.getfield 39, 3) := by decide +kernel
theorem dX2_addGuest_32 : decode cX2_addGuest 32 = .ok (.aload_n 0, 1) := by decide +kernel
theorem dX2_addGuest_33 : decode cX2_addGuest 33 = .ok (.getfield 28, 3) := by decide +kernel
theorem dX2_addGuest_36 : decode cX2_addGuest 36 = .ok (.aaload, 1) := by decide +kernel
theorem dX2_addGuest_37 : decode cX2_addGuest 37 = .ok (.iconst 0, 1) := by decide +kernel
theorem dX2_addGuest_38 : decode cX2_addGuest 38 = .ok (.putfield 101, 3) := by decide +kernel
theorem dX2_addGuest_41 : decode cX2_addGuest 41 = .ok (.aload_n 0, 1) := by decide +kernel
theorem dX2_addGuest_42 : decode cX2_addGuest 42 = .ok (.getfield 39, 3) := by decide +kernel
theorem dX2_addGuest_45 : decode cX2_addGuest 45 = .ok (.aload_n 0, 1) := by decide +kernel
theorem dX2_addGuest_46 : decode cX2_addGuest 46 = .ok (.getfield 28, 3) := by decide +kernel
theorem dX2_addGuest_49 : decode cX2_addGuest 49 = .ok (.aaload, 1) := by decide +kernel
theorem dX2_addGuest_50 : decode cX2_addGuest 50 = .ok (.iconst 0, 1) := by decide +kernel
theorem dX2_addGuest_51 : decode cX2_addGuest 51 = .ok (.putfield 104, 3) := by decide +kernel
theorem dX2_addGuest_54 : decode cX2_addGuest 54 = .ok (.aload_n 0, 1) := by decide +kernel
theorem dX2_addGuest_55 : decode cX2_addGuest 55 = .ok (.dup, 1) := by decide +kernel
theorem dX2_addGuest_56 : decode cX2_addGuest 56 = .ok (.getfield 28, 3) := by decide +kernel
theorem dX2_addGuest_59 : decode cX2_addGuest 59 = .ok (.iconst 1, 1) := by decide +kernel
theorem dX2_addGuest_60 : decode cX2_addGuest 60 = .ok (.iadd, 1) := by decide +kernel
theorem dX2_addGuest_61 : decode cX2_addGuest 61 = .ok (.putfield 28, 3) := by decide +kernel
theorem dX2_addGuest_64 : decode cX2_addGuest 64 = .ok (.return_, 1) := by decide +kernel
set_option maxRecDepth 100000 in
def F_X2_addGuest_b64  (h : Hp) : Option (Unit × Hp) :=
  some ((), h)
set_option maxHeartbeats 4000000 in
set_option maxRecDepth 100000 in
theorem r_X2_addGuest_b64  (h : Hp) {x : Cx} {r : Unit} {hz : Hp} (e : F_X2_addGuest_b64  h = some (r, hz)) (hF : Fin9 M_X2_addGuest x none none hz) : V M_X2_addGuest x 0 64 [] [] h 0 0 := by
  unfold F_X2_addGuest_b64 at e
  cases e
  exact V_vret (pc := 64) dX2_addGuest_64 hF
set_option maxRecDepth 100000 in
def F_X2_addGuest_b0 (v0 : Nat) (v1 : Int32) (v2 : Int32) (h : Hp) : Option (Unit × Hp) :=
  gd (decide (kd h v0 = 2)) <| (if (5 : Int32) ≤ (zI h v0 5) then F_X2_addGuest_b64 h else ob (zR h v0 6) fun q2 => gd (decide (kd h q2 = 13)) <| gd (ix (zI h v0 5) (zl h q2)) <| ob (zR (setI h q2 (zI h v0 5).toNatClampNeg v1) v0 7) fun q6 => gd (decide (kd (setI h q2 (zI h v0 5).toNatClampNeg v1) q6 = 13)) <| gd (ix (zI (setI h q2 (zI h v0 5).toNatClampNeg v1) v0 5) (zl (setI h q2 (zI h v0 5).toNatClampNeg v1) q6)) <| ob (zR (setI (setI h q2 (zI h v0 5).toNatClampNeg v1) q6 (zI (setI h q2 (zI h v0 5).toNatClampNeg v1) v0 5).toNatClampNeg v2) v0 8) fun q10 => gd (decide (kd (setI (setI h q2 (zI h v0 5).toNatClampNeg v1) q6 (zI (setI h q2 (zI h v0 5).toNatClampNeg v1) v0 5).toNatClampNeg v2) q10 = 15)) <| gd (ix (zI (setI (setI h q2 (zI h v0 5).toNatClampNeg v1) q6 (zI (setI h q2 (zI h v0 5).toNatClampNeg v1) v0 5).toNatClampNeg v2) v0 5) (zl (setI (setI h q2 (zI h v0 5).toNatClampNeg v1) q6 (zI (setI h q2 (zI h v0 5).toNatClampNeg v1) v0 5).toNatClampNeg v2) q10)) <| ob (zR (setI (setI h q2 (zI h v0 5).toNatClampNeg v1) q6 (zI (setI h q2 (zI h v0 5).toNatClampNeg v1) v0 5).toNatClampNeg v2) q10 (zI (setI (setI h q2 (zI h v0 5).toNatClampNeg v1) q6 (zI (setI h q2 (zI h v0 5).toNatClampNeg v1) v0 5).toNatClampNeg v2) v0 5).toNatClampNeg) fun q14 => gd (decide (kd (setI (setI h q2 (zI h v0 5).toNatClampNeg v1) q6 (zI (setI h q2 (zI h v0 5).toNatClampNeg v1) v0 5).toNatClampNeg v2) q14 = 9)) <| ob (some (setI (setI (setI h q2 (zI h v0 5).toNatClampNeg v1) q6 (zI (setI h q2 (zI h v0 5).toNatClampNeg v1) v0 5).toNatClampNeg v2) q14 0 (0 : Int32))) fun h17 => ob (zR h17 v0 8) fun q24 => gd (decide (kd h17 q24 = 15)) <| gd (ix (zI h17 v0 5) (zl h17 q24)) <| ob (zR h17 q24 (zI h17 v0 5).toNatClampNeg) fun q28 => gd (decide (kd h17 q28 = 9)) <| F_X2_addGuest_b64 (setI (setI h17 q28 3 (0 : Int32)) v0 5 ((zI (setI h17 q28 3 (0 : Int32)) v0 5) + (1 : Int32))))
set_option maxHeartbeats 4000000 in
set_option maxRecDepth 100000 in
theorem r_X2_addGuest_b0 (v0 : Nat) (v1 : Int32) (v2 : Int32) (h : Hp) {x : Cx} {r : Unit} {hz : Hp} (e : F_X2_addGuest_b0 v0 v1 v2 h = some (r, hz)) (hF : Fin9 M_X2_addGuest x none none hz) : V M_X2_addGuest x 0 0 [(0, .ref v0), (1, .int v1), (2, .int v2)] [] h 0 0 := by
  unfold F_X2_addGuest_b0 at e
  refine V_aload_n (pc := 0) (i := 0) dX2_addGuest_0 rfl rfl ?_
  obtain ⟨g1, e⟩ := gd_some e
  refine V_getI (pc := 1) (ci := 2) (k := 5) dX2_addGuest_1 fl_X2_28 rfl (of_decide_eq_true g1) ?_
  refine V_iconst (pc := 4) (v := (5 : Int32)) dX2_addGuest_4 (by decide) ?_
  refine V_icmp_ge (pc := 5) (tgt := 64) dX2_addGuest_5 (by decide) (fun c31 => ?_) (fun c31 => ?_)
  · rw [if_pos c31] at e
    exact V_pick [] rfl (r_X2_addGuest_b64 h e hF)
  · rw [if_neg c31] at e
    refine V_pick [0, 1, 2] rfl ?_
    refine V_aload_n (pc := 8) (i := 0) dX2_addGuest_8 rfl rfl ?_
    obtain ⟨q2, g3, e⟩ := ob_some e
    refine V_getR (pc := 9) (ci := 2) (k := 6) (b := q2) dX2_addGuest_9 fl_X2_31 rfl (of_decide_eq_true g1) g3 ?_
    refine V_aload_n (pc := 12) (i := 0) dX2_addGuest_12 rfl rfl ?_
    refine V_getI (pc := 13) (ci := 2) (k := 5) dX2_addGuest_13 fl_X2_28 rfl (of_decide_eq_true g1) ?_
    refine V_iload_n (pc := 16) (i := 1) dX2_addGuest_16 rfl rfl ?_
    obtain ⟨g4, e⟩ := gd_some e
    obtain ⟨g5, e⟩ := gd_some e
    refine V_iast (pc := 17) dX2_addGuest_17 (of_decide_eq_true g4) (ix_in g5) ?_
    refine V_aload_n (pc := 18) (i := 0) dX2_addGuest_18 rfl rfl ?_
    obtain ⟨q6, g7, e⟩ := ob_some e
    refine V_getR (pc := 19) (ci := 2) (k := 7) (b := q6) dX2_addGuest_19 fl_X2_34 rfl (kd_sI (of_decide_eq_true g1)) g7 ?_
    refine V_aload_n (pc := 22) (i := 0) dX2_addGuest_22 rfl rfl ?_
    refine V_getI (pc := 23) (ci := 2) (k := 5) dX2_addGuest_23 fl_X2_28 rfl (kd_sI (of_decide_eq_true g1)) ?_
    refine V_iload_n (pc := 26) (i := 2) dX2_addGuest_26 rfl rfl ?_
    obtain ⟨g8, e⟩ := gd_some e
    obtain ⟨g9, e⟩ := gd_some e
    refine V_iast (pc := 27) dX2_addGuest_27 (of_decide_eq_true g8) (ix_in g9) ?_
    refine V_aload_n (pc := 28) (i := 0) dX2_addGuest_28 rfl rfl ?_
    obtain ⟨q10, g11, e⟩ := ob_some e
    refine V_getR (pc := 29) (ci := 2) (k := 8) (b := q10) dX2_addGuest_29 fl_X2_39 rfl (kd_sI (kd_sI (of_decide_eq_true g1))) g11 ?_
    refine V_aload_n (pc := 32) (i := 0) dX2_addGuest_32 rfl rfl ?_
    refine V_getI (pc := 33) (ci := 2) (k := 5) dX2_addGuest_33 fl_X2_28 rfl (kd_sI (kd_sI (of_decide_eq_true g1))) ?_
    obtain ⟨g12, e⟩ := gd_some e
    obtain ⟨g13, e⟩ := gd_some e
    obtain ⟨q14, g15, e⟩ := ob_some e
    refine V_aald (pc := 36) (b := q14) dX2_addGuest_36 (of_decide_eq_true g12) (ix_in g13) g15 ?_
    refine V_iconst (pc := 37) (v := (0 : Int32)) dX2_addGuest_37 (by decide) ?_
    obtain ⟨g16, e⟩ := gd_some e
    refine V_putI (pc := 38) (ci := 9) (k := 0) dX2_addGuest_38 fp_X2_101 rfl (of_decide_eq_true g16) ?_
    obtain ⟨h17, g18, e⟩ := ob_some e
    refine V_hp (Option.some.inj g18) ?_
    have k19 : kd h17 v0 = 2 := kd_eq (h := (setI (setI (setI h q2 (zI h v0 5).toNatClampNeg v1) q6 (zI (setI h q2 (zI h v0 5).toNatClampNeg v1) v0 5).toNatClampNeg v2) q14 0 (0 : Int32))) (Option.some.inj g18) (kd_sI (kd_sI (kd_sI (of_decide_eq_true g1))))
    have k20 : kd h17 q2 = 13 := kd_eq (h := (setI (setI (setI h q2 (zI h v0 5).toNatClampNeg v1) q6 (zI (setI h q2 (zI h v0 5).toNatClampNeg v1) v0 5).toNatClampNeg v2) q14 0 (0 : Int32))) (Option.some.inj g18) (kd_sI (kd_sI (kd_sI (of_decide_eq_true g4))))
    have k21 : kd h17 q6 = 13 := kd_eq (h := (setI (setI (setI h q2 (zI h v0 5).toNatClampNeg v1) q6 (zI (setI h q2 (zI h v0 5).toNatClampNeg v1) v0 5).toNatClampNeg v2) q14 0 (0 : Int32))) (Option.some.inj g18) (kd_sI (kd_sI (of_decide_eq_true g8)))
    have k22 : kd h17 q10 = 15 := kd_eq (h := (setI (setI (setI h q2 (zI h v0 5).toNatClampNeg v1) q6 (zI (setI h q2 (zI h v0 5).toNatClampNeg v1) v0 5).toNatClampNeg v2) q14 0 (0 : Int32))) (Option.some.inj g18) (kd_sI (of_decide_eq_true g12))
    have k23 : kd h17 q14 = 9 := kd_eq (h := (setI (setI (setI h q2 (zI h v0 5).toNatClampNeg v1) q6 (zI (setI h q2 (zI h v0 5).toNatClampNeg v1) v0 5).toNatClampNeg v2) q14 0 (0 : Int32))) (Option.some.inj g18) (kd_sI (of_decide_eq_true g16))
    refine V_aload_n (pc := 41) (i := 0) dX2_addGuest_41 rfl rfl ?_
    obtain ⟨q24, g25, e⟩ := ob_some e
    refine V_getR (pc := 42) (ci := 2) (k := 8) (b := q24) dX2_addGuest_42 fl_X2_39 rfl k19 g25 ?_
    refine V_aload_n (pc := 45) (i := 0) dX2_addGuest_45 rfl rfl ?_
    refine V_getI (pc := 46) (ci := 2) (k := 5) dX2_addGuest_46 fl_X2_28 rfl k19 ?_
    obtain ⟨g26, e⟩ := gd_some e
    obtain ⟨g27, e⟩ := gd_some e
    obtain ⟨q28, g29, e⟩ := ob_some e
    refine V_aald (pc := 49) (b := q28) dX2_addGuest_49 (of_decide_eq_true g26) (ix_in g27) g29 ?_
    refine V_iconst (pc := 50) (v := (0 : Int32)) dX2_addGuest_50 (by decide) ?_
    obtain ⟨g30, e⟩ := gd_some e
    refine V_putI (pc := 51) (ci := 9) (k := 3) dX2_addGuest_51 fp_X2_104 rfl (of_decide_eq_true g30) ?_
    refine V_aload_n (pc := 54) (i := 0) dX2_addGuest_54 rfl rfl ?_
    refine V_dup (pc := 55) dX2_addGuest_55 rfl ?_
    refine V_getI (pc := 56) (ci := 2) (k := 5) dX2_addGuest_56 fl_X2_28 rfl (kd_sI k19) ?_
    refine V_iconst (pc := 59) (v := (1 : Int32)) dX2_addGuest_59 (by decide) ?_
    refine V_iadd (pc := 60) dX2_addGuest_60 ?_
    refine V_putI (pc := 61) (ci := 2) (k := 5) dX2_addGuest_61 fp_X2_28 rfl (kd_sI k19) ?_
    exact V_pick [] rfl (r_X2_addGuest_b64 (setI (setI h17 q28 3 (0 : Int32)) v0 5 ((zI (setI h17 q28 3 (0 : Int32)) v0 5) + (1 : Int32))) e hF)
def F_X2_addGuest (v0 : Nat) (v1 : Int32) (v2 : Int32) (h : Hp) : Option (Unit × Hp) := F_X2_addGuest_b0 v0 v1 v2 h
theorem c_X2_addGuest {l : Launch} (v0 : Nat) (v1 : Int32) (v2 : Int32) (h : Hp) {r : Unit} {hz : Hp} (e : F_X2_addGuest v0 v1 v2 h = some (r, hz)) : Ct l yX2_addGuest M_X2_addGuest none 0 [.ref v0, .int v1, .int v2] h 0 0 none hz :=
  Ct_of rfl rfl (fun q => by cases q) (Nat.le_of_ble_eq_true rfl) (fun x _ hF => V_pick [0, 1, 2] rfl (r_X2_addGuest_b0 v0 v1 v2 h e hF))
theorem dX2_farOf_0 : decode cX2_farOf 0 = .ok (.aload_n 0, 1) := by decide +kernel
theorem dX2_farOf_1 : decode cX2_farOf 1 = .ok (.getfield 15, 3) := by decide +kernel
theorem dX2_farOf_4 : decode cX2_farOf 4 = .ok (.iload_n 1, 1) := by decide +kernel
theorem dX2_farOf_5 : decode cX2_farOf 5 = .ok (.iaload, 1) := by decide +kernel
theorem dX2_farOf_6 : decode cX2_farOf 6 = .ok (.invokestatic 107, 3) := by decide +kernel
theorem dX2_farOf_9 : decode cX2_farOf 9 = .ok (.aload_n 0, 1) := by decide +kernel
theorem dX2_farOf_10 : decode cX2_farOf 10 = .ok (.getfield 19, 3) := by decide +kernel
theorem dX2_farOf_13 : decode cX2_farOf 13 = .ok (.iload_n 1, 1) := by decide +kernel
theorem dX2_farOf_14 : decode cX2_farOf 14 = .ok (.iaload, 1) := by decide +kernel
theorem dX2_farOf_15 : decode cX2_farOf 15 = .ok (.invokestatic 107, 3) := by decide +kernel
theorem dX2_farOf_18 : decode cX2_farOf 18 = .ok (.iadd, 1) := by decide +kernel
theorem dX2_farOf_19 : decode cX2_farOf 19 = .ok (.ireturn, 1) := by decide +kernel
set_option maxRecDepth 100000 in
def F_X2_farOf_b0 (v0 : Nat) (v1 : Int32) (h : Hp) : Option Int32 :=
  gd (decide (kd h v0 = 2)) <| ob (zR h v0 1) fun q2 => gd (decide (kd h q2 = 13)) <| gd (ix v1 (zl h q2)) <| ob (zR h v0 2) fun q6 => gd (decide (kd h q6 = 13)) <| gd (ix v1 (zl h q6)) <| some ((jabs (zI h q2 (v1).toNatClampNeg)) + (jabs (zI h q6 (v1).toNatClampNeg)))
set_option maxHeartbeats 4000000 in
set_option maxRecDepth 100000 in
theorem r_X2_farOf_b0 (v0 : Nat) (v1 : Int32) (h : Hp) {x : Cx} {r : Int32} (e : F_X2_farOf_b0 v0 v1 h = some r) (hF : Fin9 M_X2_farOf x (some .int) (some (.int r)) h) : V M_X2_farOf x 1 0 [(0, .ref v0), (1, .int v1)] [] h 0 0 := by
  unfold F_X2_farOf_b0 at e
  refine V_aload_n (pc := 0) (i := 0) dX2_farOf_0 rfl rfl ?_
  obtain ⟨g1, e⟩ := gd_some e
  obtain ⟨q2, g3, e⟩ := ob_some e
  refine V_getR (pc := 1) (ci := 2) (k := 1) (b := q2) dX2_farOf_1 fl_X2_15 rfl (of_decide_eq_true g1) g3 ?_
  refine V_iload_n (pc := 4) (i := 1) dX2_farOf_4 rfl rfl ?_
  obtain ⟨g4, e⟩ := gd_some e
  obtain ⟨g5, e⟩ := gd_some e
  refine V_iald (pc := 5) dX2_farOf_5 (of_decide_eq_true g4) (ix_in g5) ?_
  refine V_abs (pc := 6) dX2_farOf_6 wm_X2_107 (by decide) (Nat.le_of_ble_eq_true rfl) ?_
  refine V_aload_n (pc := 9) (i := 0) dX2_farOf_9 rfl rfl ?_
  obtain ⟨q6, g7, e⟩ := ob_some e
  refine V_getR (pc := 10) (ci := 2) (k := 2) (b := q6) dX2_farOf_10 fl_X2_19 rfl (of_decide_eq_true g1) g7 ?_
  refine V_iload_n (pc := 13) (i := 1) dX2_farOf_13 rfl rfl ?_
  obtain ⟨g8, e⟩ := gd_some e
  obtain ⟨g9, e⟩ := gd_some e
  refine V_iald (pc := 14) dX2_farOf_14 (of_decide_eq_true g8) (ix_in g9) ?_
  refine V_abs (pc := 15) dX2_farOf_15 wm_X2_107 (by decide) (Nat.le_of_ble_eq_true rfl) ?_
  refine V_iadd (pc := 18) dX2_farOf_18 ?_
  cases e
  exact V_iret (pc := 19) dX2_farOf_19 hF
def F_X2_farOf (v0 : Nat) (v1 : Int32) (h : Hp) : Option Int32 := F_X2_farOf_b0 v0 v1 h
theorem c_X2_farOf {l : Launch} (v0 : Nat) (v1 : Int32) (h : Hp) {r : Int32} (e : F_X2_farOf v0 v1 h = some r) : Ct l yX2_farOf M_X2_farOf (some .int) 1 [.ref v0, .int v1] h 0 0 (some (.int r)) h :=
  Ct_of rfl rfl (fun q => by cases q) (Nat.le_of_ble_eq_true rfl) (fun x _ hF => V_pick [0, 1] rfl (r_X2_farOf_b0 v0 v1 h e hF))
theorem dX2_headsIn_0 : decode cX2_headsIn 0 = .ok (.iconst 0, 1) := by decide +kernel
theorem dX2_headsIn_1 : decode cX2_headsIn 1 = .ok (.istore_n 3, 1) := by decide +kernel
theorem dX2_headsIn_2 : decode cX2_headsIn 2 = .ok (.iconst 0, 1) := by decide +kernel
theorem dX2_headsIn_3 : decode cX2_headsIn 3 = .ok (.istore 4, 2) := by decide +kernel
theorem dX2_headsIn_5 : decode cX2_headsIn 5 = .ok (.iload 4, 2) := by decide +kernel
theorem dX2_headsIn_7 : decode cX2_headsIn 7 = .ok (.aload_n 0, 1) := by decide +kernel
theorem dX2_headsIn_8 : decode cX2_headsIn 8 = .ok (.getfield 28, 3) := by decide +kernel
theorem dX2_headsIn_11 : decode cX2_headsIn 11 = .ok (.if_icmp .ge 20, 3) := by decide +kernel
theorem dX2_headsIn_14 : decode cX2_headsIn 14 = .ok (.aload_n 2, 1) := by decide +kernel
theorem dX2_headsIn_15 : decode cX2_headsIn 15 = .ok (.iload 4, 2) := by decide +kernel
theorem dX2_headsIn_17 : decode cX2_headsIn 17 = .ok (.iaload, 1) := by decide +kernel
theorem dX2_headsIn_18 : decode cX2_headsIn 18 = .ok (.iload_n 1, 1) := by decide +kernel
theorem dX2_headsIn_19 : decode cX2_headsIn 19 = .ok (.if_icmp .ne 6, 3) := by decide +kernel
theorem dX2_headsIn_22 : decode cX2_headsIn 22 = .ok (.iinc 3 1, 3) := by decide +kernel
theorem dX2_headsIn_25 : decode cX2_headsIn 25 = .ok (.iinc 4 1, 3) := by decide +kernel
theorem dX2_headsIn_28 : decode cX2_headsIn 28 = .ok (.goto (-23), 3) := by decide +kernel
theorem dX2_headsIn_31 : decode cX2_headsIn 31 = .ok (.iload_n 3, 1) := by decide +kernel
theorem dX2_headsIn_32 : decode cX2_headsIn 32 = .ok (.ireturn, 1) := by decide +kernel
set_option maxRecDepth 100000 in
def F_X2_headsIn_b25 (v0 : Nat) (v1 : Int32) (v2 : Nat) (v3 : Int32) (v4 : Int32) (h : Hp) : Option ((Int32 × Int32) ⊕ Int32) :=
  some (.inl (v3, v4 + (1 : Int32)))
set_option maxHeartbeats 4000000 in
set_option maxRecDepth 100000 in
theorem r_X2_headsIn_b25 (v0 : Nat) (v1 : Int32) (v2 : Nat) (v3 : Int32) (v4 : Int32) (h : Hp) {x : Cx} {o : ((Int32 × Int32) ⊕ Int32)} (e : F_X2_headsIn_b25 v0 v1 v2 v3 v4 h = some o) (kI : ∀ z, o = .inl z → V M_X2_headsIn x 0 5 [(0, .ref v0), (1, .int v1), (2, .ref v2), (3, .int z.1), (4, .int z.2)] [] h 0 0) (kE31 : ∀ z : Int32, o = .inr z → V M_X2_headsIn x 0 31 [(3, .int z)] [] h 0 0) : V M_X2_headsIn x 0 25 [(0, .ref v0), (1, .int v1), (2, .ref v2), (3, .int v3), (4, .int v4)] [] h 0 0 := by
  unfold F_X2_headsIn_b25 at e
  refine V_iinc (pc := 25) (i := 4) (u := v4 + (1 : Int32)) (lv' := [(4, .int (v4 + (1 : Int32))), (0, .ref v0), (1, .int v1), (2, .ref v2), (3, .int v3)]) dX2_headsIn_25 rfl rfl (by decide) rfl ?_
  refine V_goto (pc := 28) (tgt := 5) dX2_headsIn_28 (by decide) ?_
  cases e
  exact V_pick [1, 2, 3, 4, 0] rfl (kI (v3, v4 + (1 : Int32)) rfl)
set_option maxRecDepth 100000 in
def F_X2_headsIn_l5 (v0 : Nat) (v1 : Int32) (v2 : Nat) (v3 : Int32) (v4 : Int32) (h : Hp) : Option ((Int32 × Int32) ⊕ Int32) :=
  gd (decide (kd h v0 = 2)) <| (if (zI h v0 5) ≤ v4 then some (.inr v3) else gd (decide (kd h v2 = 13)) <| gd (ix v4 (zl h v2)) <| (if (zI h v2 (v4).toNatClampNeg) = v1 then F_X2_headsIn_b25 v0 v1 v2 (v3 + (1 : Int32)) v4 h else F_X2_headsIn_b25 v0 v1 v2 v3 v4 h))
set_option maxHeartbeats 4000000 in
set_option maxRecDepth 100000 in
theorem r_X2_headsIn_l5 (v0 : Nat) (v1 : Int32) (v2 : Nat) (v3 : Int32) (v4 : Int32) (h : Hp) {x : Cx} {o : ((Int32 × Int32) ⊕ Int32)} (e : F_X2_headsIn_l5 v0 v1 v2 v3 v4 h = some o) (kI : ∀ z, o = .inl z → V M_X2_headsIn x 0 5 [(0, .ref v0), (1, .int v1), (2, .ref v2), (3, .int z.1), (4, .int z.2)] [] h 0 0) (kE31 : ∀ z : Int32, o = .inr z → V M_X2_headsIn x 0 31 [(3, .int z)] [] h 0 0) : V M_X2_headsIn x 0 5 [(0, .ref v0), (1, .int v1), (2, .ref v2), (3, .int v3), (4, .int v4)] [] h 0 0 := by
  unfold F_X2_headsIn_l5 at e
  refine V_iload (pc := 5) (i := 4) dX2_headsIn_5 rfl ?_
  refine V_aload_n (pc := 7) (i := 0) dX2_headsIn_7 rfl rfl ?_
  obtain ⟨g1, e⟩ := gd_some e
  refine V_getI (pc := 8) (ci := 2) (k := 5) dX2_headsIn_8 fl_X2_28 rfl (of_decide_eq_true g1) ?_
  refine V_icmp_ge (pc := 11) (tgt := 31) dX2_headsIn_11 (by decide) (fun c5 => ?_) (fun c5 => ?_)
  · rw [if_pos c5] at e
    cases e
    exact V_pick [3] rfl (kE31 v3 rfl)
  · rw [if_neg c5] at e
    refine V_pick [0, 1, 2, 3, 4] rfl ?_
    refine V_aload_n (pc := 14) (i := 2) dX2_headsIn_14 rfl rfl ?_
    refine V_iload (pc := 15) (i := 4) dX2_headsIn_15 rfl ?_
    obtain ⟨g2, e⟩ := gd_some e
    obtain ⟨g3, e⟩ := gd_some e
    refine V_iald (pc := 17) dX2_headsIn_17 (of_decide_eq_true g2) (ix_in g3) ?_
    refine V_iload_n (pc := 18) (i := 1) dX2_headsIn_18 rfl rfl ?_
    refine V_icmp_ne (pc := 19) (tgt := 25) dX2_headsIn_19 (by decide) (fun c4 => ?_) (fun c4 => ?_)
    · rw [if_neg c4] at e
      exact V_pick [0, 1, 2, 3, 4] rfl (r_X2_headsIn_b25 v0 v1 v2 v3 v4 h e kI kE31)
    · rw [if_pos c4] at e
      refine V_pick [0, 1, 2, 3, 4] rfl ?_
      refine V_iinc (pc := 22) (i := 3) (u := v3 + (1 : Int32)) (lv' := [(3, .int (v3 + (1 : Int32))), (0, .ref v0), (1, .int v1), (2, .ref v2), (4, .int v4)]) dX2_headsIn_22 rfl rfl (by decide) rfl ?_
      exact V_pick [1, 2, 3, 0, 4] rfl (r_X2_headsIn_b25 v0 v1 v2 (v3 + (1 : Int32)) v4 h e kI kE31)
set_option maxRecDepth 100000 in
def F_X2_headsIn_b0 (v0 : Nat) (v1 : Int32) (v2 : Nat) (h : Hp) : Option Int32 :=
  ob (iter (fun z : Int32 × Int32 => F_X2_headsIn_l5 v0 v1 v2 z.1 z.2 h) FU ((0 : Int32), (0 : Int32))) (fun w6 => some w6)
set_option maxHeartbeats 4000000 in
set_option maxRecDepth 100000 in
theorem r_X2_headsIn_b0 (v0 : Nat) (v1 : Int32) (v2 : Nat) (h : Hp) {x : Cx} {r : Int32} (e : F_X2_headsIn_b0 v0 v1 v2 h = some r) (hF : Fin9 M_X2_headsIn x (some .int) (some (.int r)) h) : V M_X2_headsIn x 0 0 [(0, .ref v0), (1, .int v1), (2, .ref v2)] [] h 0 0 := by
  unfold F_X2_headsIn_b0 at e
  refine V_iconst (pc := 0) (v := (0 : Int32)) dX2_headsIn_0 (by decide) ?_
  refine V_istore_n (pc := 1) (i := 3) (lv' := [(3, .int (0 : Int32)), (0, .ref v0), (1, .int v1), (2, .ref v2)]) dX2_headsIn_1 rfl (by decide) rfl ?_
  refine V_iconst (pc := 2) (v := (0 : Int32)) dX2_headsIn_2 (by decide) ?_
  refine V_istore (pc := 3) (i := 4) (lv' := [(4, .int (0 : Int32)), (3, .int (0 : Int32)), (0, .ref v0), (1, .int v1), (2, .ref v2)]) dX2_headsIn_3 (by decide) rfl ?_
  refine V_pick [2, 3, 4, 1, 0] rfl ?_
  obtain ⟨y7, g8, e⟩ := ob_some e
  refine iter_V (P := fun z : Int32 × Int32 => V M_X2_headsIn x 0 5 [(0, .ref v0), (1, .int v1), (2, .ref v2), (3, .int z.1), (4, .int z.2)] [] h 0 0) (E := fun z : Int32 => V M_X2_headsIn x 0 31 [(3, .int z)] [] h 0 0) (fun z o e9 k1 k2 => r_X2_headsIn_l5 v0 v1 v2 z.1 z.2 h e9 (fun z hz9 => k1 z hz9) (fun z hz9 => k2 _ hz9)) _ _ _ g8 ?_
  clear g8
  obtain ⟨w6, rfl⟩ : ∃ q, q = y7 := ⟨_, rfl⟩
  replace e : (some w6) = some r := e
  show V M_X2_headsIn x 0 31 [(3, .int w6)] [] h 0 0
  refine V_iload_n (pc := 31) (i := 3) dX2_headsIn_31 rfl rfl ?_
  cases e
  exact V_iret (pc := 32) dX2_headsIn_32 hF
def F_X2_headsIn (v0 : Nat) (v1 : Int32) (v2 : Nat) (h : Hp) : Option Int32 := F_X2_headsIn_b0 v0 v1 v2 h
theorem c_X2_headsIn {l : Launch} (v0 : Nat) (v1 : Int32) (v2 : Nat) (h : Hp) {r : Int32} (e : F_X2_headsIn v0 v1 v2 h = some r) : Ct l yX2_headsIn M_X2_headsIn (some .int) 0 [.ref v0, .int v1, .ref v2] h 0 0 (some (.int r)) h :=
  Ct_of rfl rfl (fun q => by cases q) (Nat.le_of_ble_eq_true rfl) (fun x _ hF => V_pick [0, 1, 2] rfl (r_X2_headsIn_b0 v0 v1 v2 h e hF))
theorem dX2_snowOfAll_0 : decode cX2_snowOfAll 0 = .ok (.iconst 0, 1) := by decide +kernel
theorem dX2_snowOfAll_1 : decode cX2_snowOfAll 1 = .ok (.istore_n 1, 1) := by decide +kernel
theorem dX2_snowOfAll_2 : decode cX2_snowOfAll 2 = .ok (.iconst 0, 1) := by decide +kernel
theorem dX2_snowOfAll_3 : decode cX2_snowOfAll 3 = .ok (.istore_n 2, 1) := by decide +kernel
theorem dX2_snowOfAll_4 : decode cX2_snowOfAll 4 = .ok (.iload_n 2, 1) := by decide +kernel
theorem dX2_snowOfAll_5 : decode cX2_snowOfAll 5 = .ok (.aload_n 0, 1) := by decide +kernel
theorem dX2_snowOfAll_6 : decode cX2_snowOfAll 6 = .ok (.getfield 9, 3) := by decide +kernel
theorem dX2_snowOfAll_9 : decode cX2_snowOfAll 9 = .ok (.if_icmp .ge 18, 3) := by decide +kernel
theorem dX2_snowOfAll_12 : decode cX2_snowOfAll 12 = .ok (.iload_n 1, 1) := by decide +kernel
theorem dX2_snowOfAll_13 : decode cX2_snowOfAll 13 = .ok (.aload_n 0, 1) := by decide +kernel
theorem dX2_snowOfAll_14 : decode cX2_snowOfAll 14 = .ok (.getfield 25, 3) := by decide +kernel
theorem dX2_snowOfAll_17 : decode cX2_snowOfAll 17 = .ok (.iload_n 2, 1) := by decide +kernel
theorem dX2_snowOfAll_18 : decode cX2_snowOfAll 18 = .ok (.iaload, 1) := by decide +kernel
theorem dX2_snowOfAll_19 : decode cX2_snowOfAll 19 = .ok (.iadd, 1) := by decide +kernel
theorem dX2_snowOfAll_20 : decode cX2_snowOfAll 20 = .ok (.istore_n 1, 1) := by decide +kernel
theorem dX2_snowOfAll_21 : decode cX2_snowOfAll 21 = .ok (.iinc 2 1, 3) := by decide +kernel
theorem dX2_snowOfAll_24 : decode cX2_snowOfAll 24 = .ok (.goto (-20), 3) := by decide +kernel
theorem dX2_snowOfAll_27 : decode cX2_snowOfAll 27 = .ok (.iload_n 1, 1) := by decide +kernel
theorem dX2_snowOfAll_28 : decode cX2_snowOfAll 28 = .ok (.ireturn, 1) := by decide +kernel
set_option maxRecDepth 100000 in
def F_X2_snowOfAll_l4 (v0 : Nat) (v1 : Int32) (v2 : Int32) (h : Hp) : Option ((Int32 × Int32) ⊕ Int32) :=
  gd (decide (kd h v0 = 2)) <| (if (zI h v0 0) ≤ v2 then some (.inr v1) else ob (zR h v0 4) fun q2 => gd (decide (kd h q2 = 13)) <| gd (ix v2 (zl h q2)) <| some (.inl (v1 + (zI h q2 (v2).toNatClampNeg), v2 + (1 : Int32))))
set_option maxHeartbeats 4000000 in
set_option maxRecDepth 100000 in
theorem r_X2_snowOfAll_l4 (v0 : Nat) (v1 : Int32) (v2 : Int32) (h : Hp) {x : Cx} {o : ((Int32 × Int32) ⊕ Int32)} (e : F_X2_snowOfAll_l4 v0 v1 v2 h = some o) (kI : ∀ z, o = .inl z → V M_X2_snowOfAll x 0 4 [(0, .ref v0), (1, .int z.1), (2, .int z.2)] [] h 0 0) (kE27 : ∀ z : Int32, o = .inr z → V M_X2_snowOfAll x 0 27 [(1, .int z)] [] h 0 0) : V M_X2_snowOfAll x 0 4 [(0, .ref v0), (1, .int v1), (2, .int v2)] [] h 0 0 := by
  unfold F_X2_snowOfAll_l4 at e
  refine V_iload_n (pc := 4) (i := 2) dX2_snowOfAll_4 rfl rfl ?_
  refine V_aload_n (pc := 5) (i := 0) dX2_snowOfAll_5 rfl rfl ?_
  obtain ⟨g1, e⟩ := gd_some e
  refine V_getI (pc := 6) (ci := 2) (k := 0) dX2_snowOfAll_6 fl_X2_9 rfl (of_decide_eq_true g1) ?_
  refine V_icmp_ge (pc := 9) (tgt := 27) dX2_snowOfAll_9 (by decide) (fun c6 => ?_) (fun c6 => ?_)
  · rw [if_pos c6] at e
    cases e
    exact V_pick [1] rfl (kE27 v1 rfl)
  · rw [if_neg c6] at e
    refine V_pick [0, 1, 2] rfl ?_
    refine V_iload_n (pc := 12) (i := 1) dX2_snowOfAll_12 rfl rfl ?_
    refine V_aload_n (pc := 13) (i := 0) dX2_snowOfAll_13 rfl rfl ?_
    obtain ⟨q2, g3, e⟩ := ob_some e
    refine V_getR (pc := 14) (ci := 2) (k := 4) (b := q2) dX2_snowOfAll_14 fl_X2_25 rfl (of_decide_eq_true g1) g3 ?_
    refine V_iload_n (pc := 17) (i := 2) dX2_snowOfAll_17 rfl rfl ?_
    obtain ⟨g4, e⟩ := gd_some e
    obtain ⟨g5, e⟩ := gd_some e
    refine V_iald (pc := 18) dX2_snowOfAll_18 (of_decide_eq_true g4) (ix_in g5) ?_
    refine V_iadd (pc := 19) dX2_snowOfAll_19 ?_
    refine V_istore_n (pc := 20) (i := 1) (lv' := [(1, .int (v1 + (zI h q2 (v2).toNatClampNeg))), (0, .ref v0), (2, .int v2)]) dX2_snowOfAll_20 rfl (by decide) rfl ?_
    refine V_iinc (pc := 21) (i := 2) (u := v2 + (1 : Int32)) (lv' := [(2, .int (v2 + (1 : Int32))), (1, .int (v1 + (zI h q2 (v2).toNatClampNeg))), (0, .ref v0)]) dX2_snowOfAll_21 rfl rfl (by decide) rfl ?_
    refine V_goto (pc := 24) (tgt := 4) dX2_snowOfAll_24 (by decide) ?_
    cases e
    exact V_pick [2, 1, 0] rfl (kI (v1 + (zI h q2 (v2).toNatClampNeg), v2 + (1 : Int32)) rfl)
set_option maxRecDepth 100000 in
def F_X2_snowOfAll_b0 (v0 : Nat) (h : Hp) : Option Int32 :=
  ob (iter (fun z : Int32 × Int32 => F_X2_snowOfAll_l4 v0 z.1 z.2 h) FU ((0 : Int32), (0 : Int32))) (fun w7 => some w7)
set_option maxHeartbeats 4000000 in
set_option maxRecDepth 100000 in
theorem r_X2_snowOfAll_b0 (v0 : Nat) (h : Hp) {x : Cx} {r : Int32} (e : F_X2_snowOfAll_b0 v0 h = some r) (hF : Fin9 M_X2_snowOfAll x (some .int) (some (.int r)) h) : V M_X2_snowOfAll x 0 0 [(0, .ref v0)] [] h 0 0 := by
  unfold F_X2_snowOfAll_b0 at e
  refine V_iconst (pc := 0) (v := (0 : Int32)) dX2_snowOfAll_0 (by decide) ?_
  refine V_istore_n (pc := 1) (i := 1) (lv' := [(1, .int (0 : Int32)), (0, .ref v0)]) dX2_snowOfAll_1 rfl (by decide) rfl ?_
  refine V_iconst (pc := 2) (v := (0 : Int32)) dX2_snowOfAll_2 (by decide) ?_
  refine V_istore_n (pc := 3) (i := 2) (lv' := [(2, .int (0 : Int32)), (1, .int (0 : Int32)), (0, .ref v0)]) dX2_snowOfAll_3 rfl (by decide) rfl ?_
  refine V_pick [2, 1, 0] rfl ?_
  obtain ⟨y8, g9, e⟩ := ob_some e
  refine iter_V (P := fun z : Int32 × Int32 => V M_X2_snowOfAll x 0 4 [(0, .ref v0), (1, .int z.1), (2, .int z.2)] [] h 0 0) (E := fun z : Int32 => V M_X2_snowOfAll x 0 27 [(1, .int z)] [] h 0 0) (fun z o e9 k1 k2 => r_X2_snowOfAll_l4 v0 z.1 z.2 h e9 (fun z hz9 => k1 z hz9) (fun z hz9 => k2 _ hz9)) _ _ _ g9 ?_
  clear g9
  obtain ⟨w7, rfl⟩ : ∃ q, q = y8 := ⟨_, rfl⟩
  replace e : (some w7) = some r := e
  show V M_X2_snowOfAll x 0 27 [(1, .int w7)] [] h 0 0
  refine V_iload_n (pc := 27) (i := 1) dX2_snowOfAll_27 rfl rfl ?_
  cases e
  exact V_iret (pc := 28) dX2_snowOfAll_28 hF
def F_X2_snowOfAll (v0 : Nat) (h : Hp) : Option Int32 := F_X2_snowOfAll_b0 v0 h
theorem c_X2_snowOfAll {l : Launch} (v0 : Nat) (h : Hp) {r : Int32} (e : F_X2_snowOfAll v0 h = some r) : Ct l yX2_snowOfAll M_X2_snowOfAll (some .int) 0 [.ref v0] h 0 0 (some (.int r)) h :=
  Ct_of rfl rfl (fun q => by cases q) (Nat.le_of_ble_eq_true rfl) (fun x _ hF => V_pick [0] rfl (r_X2_snowOfAll_b0 v0 h e hF))
theorem dX2_wishesOfAll_0 : decode cX2_wishesOfAll 0 = .ok (.iconst 0, 1) := by decide +kernel
theorem dX2_wishesOfAll_1 : decode cX2_wishesOfAll 1 = .ok (.istore_n 1, 1) := by decide +kernel
theorem dX2_wishesOfAll_2 : decode cX2_wishesOfAll 2 = .ok (.iconst 0, 1) := by decide +kernel
theorem dX2_wishesOfAll_3 : decode cX2_wishesOfAll 3 = .ok (.istore_n 2, 1) := by decide +kernel
theorem dX2_wishesOfAll_4 : decode cX2_wishesOfAll 4 = .ok (.iload_n 2, 1) := by decide +kernel
theorem dX2_wishesOfAll_5 : decode cX2_wishesOfAll 5 = .ok (.aload_n 0, 1) := by decide +kernel
theorem dX2_wishesOfAll_6 : decode cX2_wishesOfAll 6 = .ok (.getfield 28, 3) := by decide +kernel
theorem dX2_wishesOfAll_9 : decode cX2_wishesOfAll 9 = .ok (.if_icmp .ge 21, 3) := by decide +kernel
theorem dX2_wishesOfAll_12 : decode cX2_wishesOfAll 12 = .ok (.iload_n 1, 1) := by decide +kernel
theorem dX2_wishesOfAll_13 : decode cX2_wishesOfAll 13 = .ok (.aload_n 0, 1) := by decide +kernel
theorem dX2_wishesOfAll_14 : decode cX2_wishesOfAll 14 = .ok (.getfield 39, 3) := by decide +kernel
theorem dX2_wishesOfAll_17 : decode cX2_wishesOfAll 17 = .ok (.iload_n 2, 1) := by decide +kernel
theorem dX2_wishesOfAll_18 : decode cX2_wishesOfAll 18 = .ok (.aaload, 1) := by decide +kernel
theorem dX2_wishesOfAll_19 : decode cX2_wishesOfAll 19 = .ok (.getfield 101, 3) := by decide +kernel
theorem dX2_wishesOfAll_22 : decode cX2_wishesOfAll 22 = .ok (.iadd, 1) := by decide +kernel
theorem dX2_wishesOfAll_23 : decode cX2_wishesOfAll 23 = .ok (.istore_n 1, 1) := by decide +kernel
theorem dX2_wishesOfAll_24 : decode cX2_wishesOfAll 24 = .ok (.iinc 2 1, 3) := by decide +kernel
theorem dX2_wishesOfAll_27 : decode cX2_wishesOfAll 27 = .ok (.goto (-23), 3) := by decide +kernel
theorem dX2_wishesOfAll_30 : decode cX2_wishesOfAll 30 = .ok (.iload_n 1, 1) := by decide +kernel
theorem dX2_wishesOfAll_31 : decode cX2_wishesOfAll 31 = .ok (.ireturn, 1) := by decide +kernel
set_option maxRecDepth 100000 in
def F_X2_wishesOfAll_l4 (v0 : Nat) (v1 : Int32) (v2 : Int32) (h : Hp) : Option ((Int32 × Int32) ⊕ Int32) :=
  gd (decide (kd h v0 = 2)) <| (if (zI h v0 5) ≤ v2 then some (.inr v1) else ob (zR h v0 8) fun q2 => gd (decide (kd h q2 = 15)) <| gd (ix v2 (zl h q2)) <| ob (zR h q2 (v2).toNatClampNeg) fun q6 => gd (decide (kd h q6 = 9)) <| some (.inl (v1 + (zI h q6 0), v2 + (1 : Int32))))
set_option maxHeartbeats 4000000 in
set_option maxRecDepth 100000 in
theorem r_X2_wishesOfAll_l4 (v0 : Nat) (v1 : Int32) (v2 : Int32) (h : Hp) {x : Cx} {o : ((Int32 × Int32) ⊕ Int32)} (e : F_X2_wishesOfAll_l4 v0 v1 v2 h = some o) (kI : ∀ z, o = .inl z → V M_X2_wishesOfAll x 0 4 [(0, .ref v0), (1, .int z.1), (2, .int z.2)] [] h 0 0) (kE30 : ∀ z : Int32, o = .inr z → V M_X2_wishesOfAll x 0 30 [(1, .int z)] [] h 0 0) : V M_X2_wishesOfAll x 0 4 [(0, .ref v0), (1, .int v1), (2, .int v2)] [] h 0 0 := by
  unfold F_X2_wishesOfAll_l4 at e
  refine V_iload_n (pc := 4) (i := 2) dX2_wishesOfAll_4 rfl rfl ?_
  refine V_aload_n (pc := 5) (i := 0) dX2_wishesOfAll_5 rfl rfl ?_
  obtain ⟨g1, e⟩ := gd_some e
  refine V_getI (pc := 6) (ci := 2) (k := 5) dX2_wishesOfAll_6 fl_X2_28 rfl (of_decide_eq_true g1) ?_
  refine V_icmp_ge (pc := 9) (tgt := 30) dX2_wishesOfAll_9 (by decide) (fun c9 => ?_) (fun c9 => ?_)
  · rw [if_pos c9] at e
    cases e
    exact V_pick [1] rfl (kE30 v1 rfl)
  · rw [if_neg c9] at e
    refine V_pick [0, 1, 2] rfl ?_
    refine V_iload_n (pc := 12) (i := 1) dX2_wishesOfAll_12 rfl rfl ?_
    refine V_aload_n (pc := 13) (i := 0) dX2_wishesOfAll_13 rfl rfl ?_
    obtain ⟨q2, g3, e⟩ := ob_some e
    refine V_getR (pc := 14) (ci := 2) (k := 8) (b := q2) dX2_wishesOfAll_14 fl_X2_39 rfl (of_decide_eq_true g1) g3 ?_
    refine V_iload_n (pc := 17) (i := 2) dX2_wishesOfAll_17 rfl rfl ?_
    obtain ⟨g4, e⟩ := gd_some e
    obtain ⟨g5, e⟩ := gd_some e
    obtain ⟨q6, g7, e⟩ := ob_some e
    refine V_aald (pc := 18) (b := q6) dX2_wishesOfAll_18 (of_decide_eq_true g4) (ix_in g5) g7 ?_
    obtain ⟨g8, e⟩ := gd_some e
    refine V_getI (pc := 19) (ci := 9) (k := 0) dX2_wishesOfAll_19 fl_X2_101 rfl (of_decide_eq_true g8) ?_
    refine V_iadd (pc := 22) dX2_wishesOfAll_22 ?_
    refine V_istore_n (pc := 23) (i := 1) (lv' := [(1, .int (v1 + (zI h q6 0))), (0, .ref v0), (2, .int v2)]) dX2_wishesOfAll_23 rfl (by decide) rfl ?_
    refine V_iinc (pc := 24) (i := 2) (u := v2 + (1 : Int32)) (lv' := [(2, .int (v2 + (1 : Int32))), (1, .int (v1 + (zI h q6 0))), (0, .ref v0)]) dX2_wishesOfAll_24 rfl rfl (by decide) rfl ?_
    refine V_goto (pc := 27) (tgt := 4) dX2_wishesOfAll_27 (by decide) ?_
    cases e
    exact V_pick [2, 1, 0] rfl (kI (v1 + (zI h q6 0), v2 + (1 : Int32)) rfl)
set_option maxRecDepth 100000 in
def F_X2_wishesOfAll_b0 (v0 : Nat) (h : Hp) : Option Int32 :=
  ob (iter (fun z : Int32 × Int32 => F_X2_wishesOfAll_l4 v0 z.1 z.2 h) FU ((0 : Int32), (0 : Int32))) (fun w10 => some w10)
set_option maxHeartbeats 4000000 in
set_option maxRecDepth 100000 in
theorem r_X2_wishesOfAll_b0 (v0 : Nat) (h : Hp) {x : Cx} {r : Int32} (e : F_X2_wishesOfAll_b0 v0 h = some r) (hF : Fin9 M_X2_wishesOfAll x (some .int) (some (.int r)) h) : V M_X2_wishesOfAll x 0 0 [(0, .ref v0)] [] h 0 0 := by
  unfold F_X2_wishesOfAll_b0 at e
  refine V_iconst (pc := 0) (v := (0 : Int32)) dX2_wishesOfAll_0 (by decide) ?_
  refine V_istore_n (pc := 1) (i := 1) (lv' := [(1, .int (0 : Int32)), (0, .ref v0)]) dX2_wishesOfAll_1 rfl (by decide) rfl ?_
  refine V_iconst (pc := 2) (v := (0 : Int32)) dX2_wishesOfAll_2 (by decide) ?_
  refine V_istore_n (pc := 3) (i := 2) (lv' := [(2, .int (0 : Int32)), (1, .int (0 : Int32)), (0, .ref v0)]) dX2_wishesOfAll_3 rfl (by decide) rfl ?_
  refine V_pick [2, 1, 0] rfl ?_
  obtain ⟨y11, g12, e⟩ := ob_some e
  refine iter_V (P := fun z : Int32 × Int32 => V M_X2_wishesOfAll x 0 4 [(0, .ref v0), (1, .int z.1), (2, .int z.2)] [] h 0 0) (E := fun z : Int32 => V M_X2_wishesOfAll x 0 30 [(1, .int z)] [] h 0 0) (fun z o e9 k1 k2 => r_X2_wishesOfAll_l4 v0 z.1 z.2 h e9 (fun z hz9 => k1 z hz9) (fun z hz9 => k2 _ hz9)) _ _ _ g12 ?_
  clear g12
  obtain ⟨w10, rfl⟩ : ∃ q, q = y11 := ⟨_, rfl⟩
  replace e : (some w10) = some r := e
  show V M_X2_wishesOfAll x 0 30 [(1, .int w10)] [] h 0 0
  refine V_iload_n (pc := 30) (i := 1) dX2_wishesOfAll_30 rfl rfl ?_
  cases e
  exact V_iret (pc := 31) dX2_wishesOfAll_31 hF
def F_X2_wishesOfAll (v0 : Nat) (h : Hp) : Option Int32 := F_X2_wishesOfAll_b0 v0 h
theorem c_X2_wishesOfAll {l : Launch} (v0 : Nat) (h : Hp) {r : Int32} (e : F_X2_wishesOfAll v0 h = some r) : Ct l yX2_wishesOfAll M_X2_wishesOfAll (some .int) 0 [.ref v0] h 0 0 (some (.int r)) h :=
  Ct_of rfl rfl (fun q => by cases q) (Nat.le_of_ble_eq_true rfl) (fun x _ hF => V_pick [0] rfl (r_X2_wishesOfAll_b0 v0 h e hF))
theorem dX2_netOfThings_0 : decode cX2_netOfThings 0 = .ok (.aload_n 0, 1) := by decide +kernel
theorem dX2_netOfThings_1 : decode cX2_netOfThings 1 = .ok (.getfield 50, 3) := by decide +kernel
theorem dX2_netOfThings_4 : decode cX2_netOfThings 4 = .ok (.aload_n 1, 1) := by decide +kernel
theorem dX2_netOfThings_5 : decode cX2_netOfThings 5 = .ok (.iload_n 2, 1) := by decide +kernel
theorem dX2_netOfThings_6 : decode cX2_netOfThings 6 = .ok (.iaload, 1) := by decide +kernel
theorem dX2_netOfThings_7 : decode cX2_netOfThings 7 = .ok (.imul, 1) := by decide +kernel
theorem dX2_netOfThings_8 : decode cX2_netOfThings 8 = .ok (.istore_n 3, 1) := by decide +kernel
theorem dX2_netOfThings_9 : decode cX2_netOfThings 9 = .ok (.iconst 0, 1) := by decide +kernel
theorem dX2_netOfThings_10 : decode cX2_netOfThings 10 = .ok (.istore 4, 2) := by decide +kernel
theorem dX2_netOfThings_12 : decode cX2_netOfThings 12 = .ok (.iload 4, 2) := by decide +kernel
theorem dX2_netOfThings_14 : decode cX2_netOfThings 14 = .ok (.aload_n 0, 1) := by decide +kernel
theorem dX2_netOfThings_15 : decode cX2_netOfThings 15 = .ok (.getfield 9, 3) := by decide +kernel
theorem dX2_netOfThings_18 : decode cX2_netOfThings 18 = .ok (.if_icmp .ge 24, 3) := by decide +kernel
theorem dX2_netOfThings_21 : decode cX2_netOfThings 21 = .ok (.iload_n 3, 1) := by decide +kernel
theorem dX2_netOfThings_22 : decode cX2_netOfThings 22 = .ok (.aload_n 0, 1) := by decide +kernel
theorem dX2_netOfThings_23 : decode cX2_netOfThings 23 = .ok (.getfield 25, 3) := by decide +kernel
theorem dX2_netOfThings_26 : decode cX2_netOfThings 26 = .ok (.iload 4, 2) := by decide +kernel
theorem dX2_netOfThings_28 : decode cX2_netOfThings 28 = .ok (.iaload, 1) := by decide +kernel
theorem dX2_netOfThings_29 : decode cX2_netOfThings 29 = .ok (.aload_n 1, 1) := by decide +kernel
theorem dX2_netOfThings_30 : decode cX2_netOfThings 30 = .ok (.iload 4, 2) := by decide +kernel
theorem dX2_netOfThings_32 : decode cX2_netOfThings 32 = .ok (.iaload, 1) := by decide +kernel
theorem dX2_netOfThings_33 : decode cX2_netOfThings 33 = .ok (.imul, 1) := by decide +kernel
theorem dX2_netOfThings_34 : decode cX2_netOfThings 34 = .ok (.iadd, 1) := by decide +kernel
theorem dX2_netOfThings_35 : decode cX2_netOfThings 35 = .ok (.istore_n 3, 1) := by decide +kernel
theorem dX2_netOfThings_36 : decode cX2_netOfThings 36 = .ok (.iinc 4 1, 3) := by decide +kernel
theorem dX2_netOfThings_39 : decode cX2_netOfThings 39 = .ok (.goto (-27), 3) := by decide +kernel
theorem dX2_netOfThings_42 : decode cX2_netOfThings 42 = .ok (.iload_n 3, 1) := by decide +kernel
theorem dX2_netOfThings_43 : decode cX2_netOfThings 43 = .ok (.ireturn, 1) := by decide +kernel
set_option maxRecDepth 100000 in
def F_X2_netOfThings_l12 (v0 : Nat) (v1 : Nat) (v3 : Int32) (v4 : Int32) (h : Hp) : Option ((Int32 × Int32) ⊕ Int32) :=
  gd (decide (kd h v0 = 2)) <| (if (zI h v0 0) ≤ v4 then some (.inr v3) else ob (zR h v0 4) fun q5 => gd (decide (kd h q5 = 13)) <| gd (ix v4 (zl h q5)) <| gd (decide (kd h v1 = 13)) <| gd (ix v4 (zl h v1)) <| some (.inl (v3 + ((zI h q5 (v4).toNatClampNeg) * (zI h v1 (v4).toNatClampNeg)), v4 + (1 : Int32))))
set_option maxHeartbeats 4000000 in
set_option maxRecDepth 100000 in
theorem r_X2_netOfThings_l12 (v0 : Nat) (v1 : Nat) (v3 : Int32) (v4 : Int32) (h : Hp) {x : Cx} {o : ((Int32 × Int32) ⊕ Int32)} (e : F_X2_netOfThings_l12 v0 v1 v3 v4 h = some o) (kI : ∀ z, o = .inl z → V M_X2_netOfThings x 0 12 [(0, .ref v0), (1, .ref v1), (3, .int z.1), (4, .int z.2)] [] h 0 0) (kE42 : ∀ z : Int32, o = .inr z → V M_X2_netOfThings x 0 42 [(3, .int z)] [] h 0 0) : V M_X2_netOfThings x 0 12 [(0, .ref v0), (1, .ref v1), (3, .int v3), (4, .int v4)] [] h 0 0 := by
  unfold F_X2_netOfThings_l12 at e
  refine V_iload (pc := 12) (i := 4) dX2_netOfThings_12 rfl ?_
  refine V_aload_n (pc := 14) (i := 0) dX2_netOfThings_14 rfl rfl ?_
  obtain ⟨g4, e⟩ := gd_some e
  refine V_getI (pc := 15) (ci := 2) (k := 0) dX2_netOfThings_15 fl_X2_9 rfl (of_decide_eq_true g4) ?_
  refine V_icmp_ge (pc := 18) (tgt := 42) dX2_netOfThings_18 (by decide) (fun c11 => ?_) (fun c11 => ?_)
  · rw [if_pos c11] at e
    cases e
    exact V_pick [2] rfl (kE42 v3 rfl)
  · rw [if_neg c11] at e
    refine V_pick [0, 1, 2, 3] rfl ?_
    refine V_iload_n (pc := 21) (i := 3) dX2_netOfThings_21 rfl rfl ?_
    refine V_aload_n (pc := 22) (i := 0) dX2_netOfThings_22 rfl rfl ?_
    obtain ⟨q5, g6, e⟩ := ob_some e
    refine V_getR (pc := 23) (ci := 2) (k := 4) (b := q5) dX2_netOfThings_23 fl_X2_25 rfl (of_decide_eq_true g4) g6 ?_
    refine V_iload (pc := 26) (i := 4) dX2_netOfThings_26 rfl ?_
    obtain ⟨g7, e⟩ := gd_some e
    obtain ⟨g8, e⟩ := gd_some e
    refine V_iald (pc := 28) dX2_netOfThings_28 (of_decide_eq_true g7) (ix_in g8) ?_
    refine V_aload_n (pc := 29) (i := 1) dX2_netOfThings_29 rfl rfl ?_
    refine V_iload (pc := 30) (i := 4) dX2_netOfThings_30 rfl ?_
    obtain ⟨g9, e⟩ := gd_some e
    obtain ⟨g10, e⟩ := gd_some e
    refine V_iald (pc := 32) dX2_netOfThings_32 (of_decide_eq_true g9) (ix_in g10) ?_
    refine V_imul (pc := 33) dX2_netOfThings_33 ?_
    refine V_iadd (pc := 34) dX2_netOfThings_34 ?_
    refine V_istore_n (pc := 35) (i := 3) (lv' := [(3, .int (v3 + ((zI h q5 (v4).toNatClampNeg) * (zI h v1 (v4).toNatClampNeg)))), (0, .ref v0), (1, .ref v1), (4, .int v4)]) dX2_netOfThings_35 rfl (by decide) rfl ?_
    refine V_iinc (pc := 36) (i := 4) (u := v4 + (1 : Int32)) (lv' := [(4, .int (v4 + (1 : Int32))), (3, .int (v3 + ((zI h q5 (v4).toNatClampNeg) * (zI h v1 (v4).toNatClampNeg)))), (0, .ref v0), (1, .ref v1)]) dX2_netOfThings_36 rfl rfl (by decide) rfl ?_
    refine V_goto (pc := 39) (tgt := 12) dX2_netOfThings_39 (by decide) ?_
    cases e
    exact V_pick [2, 3, 1, 0] rfl (kI (v3 + ((zI h q5 (v4).toNatClampNeg) * (zI h v1 (v4).toNatClampNeg)), v4 + (1 : Int32)) rfl)
set_option maxRecDepth 100000 in
def F_X2_netOfThings_b0 (v0 : Nat) (v1 : Nat) (v2 : Int32) (h : Hp) : Option Int32 :=
  gd (decide (kd h v0 = 2)) <| gd (decide (kd h v1 = 13)) <| gd (ix v2 (zl h v1)) <| ob (iter (fun z : Int32 × Int32 => F_X2_netOfThings_l12 v0 v1 z.1 z.2 h) FU ((zI h v0 10) * (zI h v1 (v2).toNatClampNeg), (0 : Int32))) (fun w12 => some w12)
set_option maxHeartbeats 4000000 in
set_option maxRecDepth 100000 in
theorem r_X2_netOfThings_b0 (v0 : Nat) (v1 : Nat) (v2 : Int32) (h : Hp) {x : Cx} {r : Int32} (e : F_X2_netOfThings_b0 v0 v1 v2 h = some r) (hF : Fin9 M_X2_netOfThings x (some .int) (some (.int r)) h) : V M_X2_netOfThings x 0 0 [(0, .ref v0), (1, .ref v1), (2, .int v2)] [] h 0 0 := by
  unfold F_X2_netOfThings_b0 at e
  refine V_aload_n (pc := 0) (i := 0) dX2_netOfThings_0 rfl rfl ?_
  obtain ⟨g1, e⟩ := gd_some e
  refine V_getI (pc := 1) (ci := 2) (k := 10) dX2_netOfThings_1 fl_X2_50 rfl (of_decide_eq_true g1) ?_
  refine V_aload_n (pc := 4) (i := 1) dX2_netOfThings_4 rfl rfl ?_
  refine V_iload_n (pc := 5) (i := 2) dX2_netOfThings_5 rfl rfl ?_
  obtain ⟨g2, e⟩ := gd_some e
  obtain ⟨g3, e⟩ := gd_some e
  refine V_iald (pc := 6) dX2_netOfThings_6 (of_decide_eq_true g2) (ix_in g3) ?_
  refine V_imul (pc := 7) dX2_netOfThings_7 ?_
  refine V_istore_n (pc := 8) (i := 3) (lv' := [(3, .int ((zI h v0 10) * (zI h v1 (v2).toNatClampNeg))), (0, .ref v0), (1, .ref v1), (2, .int v2)]) dX2_netOfThings_8 rfl (by decide) rfl ?_
  refine V_iconst (pc := 9) (v := (0 : Int32)) dX2_netOfThings_9 (by decide) ?_
  refine V_istore (pc := 10) (i := 4) (lv' := [(4, .int (0 : Int32)), (3, .int ((zI h v0 10) * (zI h v1 (v2).toNatClampNeg))), (0, .ref v0), (1, .ref v1), (2, .int v2)]) dX2_netOfThings_10 (by decide) rfl ?_
  refine V_pick [2, 3, 1, 0] rfl ?_
  obtain ⟨y13, g14, e⟩ := ob_some e
  refine iter_V (P := fun z : Int32 × Int32 => V M_X2_netOfThings x 0 12 [(0, .ref v0), (1, .ref v1), (3, .int z.1), (4, .int z.2)] [] h 0 0) (E := fun z : Int32 => V M_X2_netOfThings x 0 42 [(3, .int z)] [] h 0 0) (fun z o e9 k1 k2 => r_X2_netOfThings_l12 v0 v1 z.1 z.2 h e9 (fun z hz9 => k1 z hz9) (fun z hz9 => k2 _ hz9)) _ _ _ g14 ?_
  clear g14
  obtain ⟨w12, rfl⟩ : ∃ q, q = y13 := ⟨_, rfl⟩
  replace e : (some w12) = some r := e
  show V M_X2_netOfThings x 0 42 [(3, .int w12)] [] h 0 0
  refine V_iload_n (pc := 42) (i := 3) dX2_netOfThings_42 rfl rfl ?_
  cases e
  exact V_iret (pc := 43) dX2_netOfThings_43 hF
def F_X2_netOfThings (v0 : Nat) (v1 : Nat) (v2 : Int32) (h : Hp) : Option Int32 := F_X2_netOfThings_b0 v0 v1 v2 h
theorem c_X2_netOfThings {l : Launch} (v0 : Nat) (v1 : Nat) (v2 : Int32) (h : Hp) {r : Int32} (e : F_X2_netOfThings v0 v1 v2 h = some r) : Ct l yX2_netOfThings M_X2_netOfThings (some .int) 0 [.ref v0, .ref v1, .int v2] h 0 0 (some (.int r)) h :=
  Ct_of rfl rfl (fun q => by cases q) (Nat.le_of_ble_eq_true rfl) (fun x _ hF => V_pick [0, 1, 2] rfl (r_X2_netOfThings_b0 v0 v1 v2 h e hF))
theorem dX2_netOfGuests_0 : decode cX2_netOfGuests 0 = .ok (.iconst 0, 1) := by decide +kernel
theorem dX2_netOfGuests_1 : decode cX2_netOfGuests 1 = .ok (.istore_n 3, 1) := by decide +kernel
theorem dX2_netOfGuests_2 : decode cX2_netOfGuests 2 = .ok (.iconst 0, 1) := by decide +kernel
theorem dX2_netOfGuests_3 : decode cX2_netOfGuests 3 = .ok (.istore 4, 2) := by decide +kernel
theorem dX2_netOfGuests_5 : decode cX2_netOfGuests 5 = .ok (.iload 4, 2) := by decide +kernel
theorem dX2_netOfGuests_7 : decode cX2_netOfGuests 7 = .ok (.aload_n 0, 1) := by decide +kernel
theorem dX2_netOfGuests_8 : decode cX2_netOfGuests 8 = .ok (.getfield 28, 3) := by decide +kernel
theorem dX2_netOfGuests_11 : decode cX2_netOfGuests 11 = .ok (.if_icmp .ge 26, 3) := by decide +kernel
theorem dX2_netOfGuests_14 : decode cX2_netOfGuests 14 = .ok (.iload_n 3, 1) := by decide +kernel
theorem dX2_netOfGuests_15 : decode cX2_netOfGuests 15 = .ok (.aload_n 0, 1) := by decide +kernel
theorem dX2_netOfGuests_16 : decode cX2_netOfGuests 16 = .ok (.getfield 31, 3) := by decide +kernel
theorem dX2_netOfGuests_19 : decode cX2_netOfGuests 19 = .ok (.iload 4, 2) := by decide +kernel
theorem dX2_netOfGuests_21 : decode cX2_netOfGuests 21 = .ok (.iaload, 1) := by decide +kernel
theorem dX2_netOfGuests_22 : decode cX2_netOfGuests 22 = .ok (.aload_n 1, 1) := by decide +kernel
theorem dX2_netOfGuests_23 : decode cX2_netOfGuests 23 = .ok (.aload_n 2, 1) := by decide +kernel
theorem dX2_netOfGuests_24 : decode cX2_netOfGuests 24 = .ok (.iload 4, 2) := by decide +kernel
theorem dX2_netOfGuests_26 : decode cX2_netOfGuests 26 = .ok (.iaload, 1) := by decide +kernel
theorem dX2_netOfGuests_27 : decode cX2_netOfGuests 27 = .ok (.iaload, 1) := by decide +kernel
theorem dX2_netOfGuests_28 : decode cX2_netOfGuests 28 = .ok (.imul, 1) := by decide +kernel
theorem dX2_netOfGuests_29 : decode cX2_netOfGuests 29 = .ok (.iadd, 1) := by decide +kernel
theorem dX2_netOfGuests_30 : decode cX2_netOfGuests 30 = .ok (.istore_n 3, 1) := by decide +kernel
theorem dX2_netOfGuests_31 : decode cX2_netOfGuests 31 = .ok (.iinc 4 1, 3) := by decide +kernel
theorem dX2_netOfGuests_34 : decode cX2_netOfGuests 34 = .ok (.goto (-29), 3) := by decide +kernel
theorem dX2_netOfGuests_37 : decode cX2_netOfGuests 37 = .ok (.iload_n 3, 1) := by decide +kernel
theorem dX2_netOfGuests_38 : decode cX2_netOfGuests 38 = .ok (.ireturn, 1) := by decide +kernel
set_option maxRecDepth 100000 in
def F_X2_netOfGuests_l5 (v0 : Nat) (v1 : Nat) (v2 : Nat) (v3 : Int32) (v4 : Int32) (h : Hp) : Option ((Int32 × Int32) ⊕ Int32) :=
  gd (decide (kd h v0 = 2)) <| (if (zI h v0 5) ≤ v4 then some (.inr v3) else ob (zR h v0 6) fun q2 => gd (decide (kd h q2 = 13)) <| gd (ix v4 (zl h q2)) <| gd (decide (kd h v2 = 13)) <| gd (ix v4 (zl h v2)) <| gd (decide (kd h v1 = 13)) <| gd (ix (zI h v2 (v4).toNatClampNeg) (zl h v1)) <| some (.inl (v3 + ((zI h q2 (v4).toNatClampNeg) * (zI h v1 (zI h v2 (v4).toNatClampNeg).toNatClampNeg)), v4 + (1 : Int32))))
set_option maxHeartbeats 4000000 in
set_option maxRecDepth 100000 in
theorem r_X2_netOfGuests_l5 (v0 : Nat) (v1 : Nat) (v2 : Nat) (v3 : Int32) (v4 : Int32) (h : Hp) {x : Cx} {o : ((Int32 × Int32) ⊕ Int32)} (e : F_X2_netOfGuests_l5 v0 v1 v2 v3 v4 h = some o) (kI : ∀ z, o = .inl z → V M_X2_netOfGuests x 0 5 [(0, .ref v0), (1, .ref v1), (2, .ref v2), (3, .int z.1), (4, .int z.2)] [] h 0 0) (kE37 : ∀ z : Int32, o = .inr z → V M_X2_netOfGuests x 0 37 [(3, .int z)] [] h 0 0) : V M_X2_netOfGuests x 0 5 [(0, .ref v0), (1, .ref v1), (2, .ref v2), (3, .int v3), (4, .int v4)] [] h 0 0 := by
  unfold F_X2_netOfGuests_l5 at e
  refine V_iload (pc := 5) (i := 4) dX2_netOfGuests_5 rfl ?_
  refine V_aload_n (pc := 7) (i := 0) dX2_netOfGuests_7 rfl rfl ?_
  obtain ⟨g1, e⟩ := gd_some e
  refine V_getI (pc := 8) (ci := 2) (k := 5) dX2_netOfGuests_8 fl_X2_28 rfl (of_decide_eq_true g1) ?_
  refine V_icmp_ge (pc := 11) (tgt := 37) dX2_netOfGuests_11 (by decide) (fun c10 => ?_) (fun c10 => ?_)
  · rw [if_pos c10] at e
    cases e
    exact V_pick [3] rfl (kE37 v3 rfl)
  · rw [if_neg c10] at e
    refine V_pick [0, 1, 2, 3, 4] rfl ?_
    refine V_iload_n (pc := 14) (i := 3) dX2_netOfGuests_14 rfl rfl ?_
    refine V_aload_n (pc := 15) (i := 0) dX2_netOfGuests_15 rfl rfl ?_
    obtain ⟨q2, g3, e⟩ := ob_some e
    refine V_getR (pc := 16) (ci := 2) (k := 6) (b := q2) dX2_netOfGuests_16 fl_X2_31 rfl (of_decide_eq_true g1) g3 ?_
    refine V_iload (pc := 19) (i := 4) dX2_netOfGuests_19 rfl ?_
    obtain ⟨g4, e⟩ := gd_some e
    obtain ⟨g5, e⟩ := gd_some e
    refine V_iald (pc := 21) dX2_netOfGuests_21 (of_decide_eq_true g4) (ix_in g5) ?_
    refine V_aload_n (pc := 22) (i := 1) dX2_netOfGuests_22 rfl rfl ?_
    refine V_aload_n (pc := 23) (i := 2) dX2_netOfGuests_23 rfl rfl ?_
    refine V_iload (pc := 24) (i := 4) dX2_netOfGuests_24 rfl ?_
    obtain ⟨g6, e⟩ := gd_some e
    obtain ⟨g7, e⟩ := gd_some e
    refine V_iald (pc := 26) dX2_netOfGuests_26 (of_decide_eq_true g6) (ix_in g7) ?_
    obtain ⟨g8, e⟩ := gd_some e
    obtain ⟨g9, e⟩ := gd_some e
    refine V_iald (pc := 27) dX2_netOfGuests_27 (of_decide_eq_true g8) (ix_in g9) ?_
    refine V_imul (pc := 28) dX2_netOfGuests_28 ?_
    refine V_iadd (pc := 29) dX2_netOfGuests_29 ?_
    refine V_istore_n (pc := 30) (i := 3) (lv' := [(3, .int (v3 + ((zI h q2 (v4).toNatClampNeg) * (zI h v1 (zI h v2 (v4).toNatClampNeg).toNatClampNeg)))), (0, .ref v0), (1, .ref v1), (2, .ref v2), (4, .int v4)]) dX2_netOfGuests_30 rfl (by decide) rfl ?_
    refine V_iinc (pc := 31) (i := 4) (u := v4 + (1 : Int32)) (lv' := [(4, .int (v4 + (1 : Int32))), (3, .int (v3 + ((zI h q2 (v4).toNatClampNeg) * (zI h v1 (zI h v2 (v4).toNatClampNeg).toNatClampNeg)))), (0, .ref v0), (1, .ref v1), (2, .ref v2)]) dX2_netOfGuests_31 rfl rfl (by decide) rfl ?_
    refine V_goto (pc := 34) (tgt := 5) dX2_netOfGuests_34 (by decide) ?_
    cases e
    exact V_pick [2, 3, 4, 1, 0] rfl (kI (v3 + ((zI h q2 (v4).toNatClampNeg) * (zI h v1 (zI h v2 (v4).toNatClampNeg).toNatClampNeg)), v4 + (1 : Int32)) rfl)
set_option maxRecDepth 100000 in
def F_X2_netOfGuests_b0 (v0 : Nat) (v1 : Nat) (v2 : Nat) (h : Hp) : Option Int32 :=
  ob (iter (fun z : Int32 × Int32 => F_X2_netOfGuests_l5 v0 v1 v2 z.1 z.2 h) FU ((0 : Int32), (0 : Int32))) (fun w11 => some w11)
set_option maxHeartbeats 4000000 in
set_option maxRecDepth 100000 in
theorem r_X2_netOfGuests_b0 (v0 : Nat) (v1 : Nat) (v2 : Nat) (h : Hp) {x : Cx} {r : Int32} (e : F_X2_netOfGuests_b0 v0 v1 v2 h = some r) (hF : Fin9 M_X2_netOfGuests x (some .int) (some (.int r)) h) : V M_X2_netOfGuests x 0 0 [(0, .ref v0), (1, .ref v1), (2, .ref v2)] [] h 0 0 := by
  unfold F_X2_netOfGuests_b0 at e
  refine V_iconst (pc := 0) (v := (0 : Int32)) dX2_netOfGuests_0 (by decide) ?_
  refine V_istore_n (pc := 1) (i := 3) (lv' := [(3, .int (0 : Int32)), (0, .ref v0), (1, .ref v1), (2, .ref v2)]) dX2_netOfGuests_1 rfl (by decide) rfl ?_
  refine V_iconst (pc := 2) (v := (0 : Int32)) dX2_netOfGuests_2 (by decide) ?_
  refine V_istore (pc := 3) (i := 4) (lv' := [(4, .int (0 : Int32)), (3, .int (0 : Int32)), (0, .ref v0), (1, .ref v1), (2, .ref v2)]) dX2_netOfGuests_3 (by decide) rfl ?_
  refine V_pick [2, 3, 4, 1, 0] rfl ?_
  obtain ⟨y12, g13, e⟩ := ob_some e
  refine iter_V (P := fun z : Int32 × Int32 => V M_X2_netOfGuests x 0 5 [(0, .ref v0), (1, .ref v1), (2, .ref v2), (3, .int z.1), (4, .int z.2)] [] h 0 0) (E := fun z : Int32 => V M_X2_netOfGuests x 0 37 [(3, .int z)] [] h 0 0) (fun z o e9 k1 k2 => r_X2_netOfGuests_l5 v0 v1 v2 z.1 z.2 h e9 (fun z hz9 => k1 z hz9) (fun z hz9 => k2 _ hz9)) _ _ _ g13 ?_
  clear g13
  obtain ⟨w11, rfl⟩ : ∃ q, q = y12 := ⟨_, rfl⟩
  replace e : (some w11) = some r := e
  show V M_X2_netOfGuests x 0 37 [(3, .int w11)] [] h 0 0
  refine V_iload_n (pc := 37) (i := 3) dX2_netOfGuests_37 rfl rfl ?_
  cases e
  exact V_iret (pc := 38) dX2_netOfGuests_38 hF
def F_X2_netOfGuests (v0 : Nat) (v1 : Nat) (v2 : Nat) (h : Hp) : Option Int32 := F_X2_netOfGuests_b0 v0 v1 v2 h
theorem c_X2_netOfGuests {l : Launch} (v0 : Nat) (v1 : Nat) (v2 : Nat) (h : Hp) {r : Int32} (e : F_X2_netOfGuests v0 v1 v2 h = some r) : Ct l yX2_netOfGuests M_X2_netOfGuests (some .int) 0 [.ref v0, .ref v1, .ref v2] h 0 0 (some (.int r)) h :=
  Ct_of rfl rfl (fun q => by cases q) (Nat.le_of_ble_eq_true rfl) (fun x _ hF => V_pick [0, 1, 2] rfl (r_X2_netOfGuests_b0 v0 v1 v2 h e hF))
