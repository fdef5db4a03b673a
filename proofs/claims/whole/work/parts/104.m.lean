theorem dX12_where_0 : decode cX12_where 0 = .ok (.aload_n 0, 1) := by decide +kernel
theorem dX12_where_1 : decode cX12_where 1 = .ok (.iconst 0, 1) := by decide +kernel
theorem dX12_where_2 : decode cX12_where 2 = .ok (.putfield 3, 3) := by decide +kernel
theorem dX12_where_5 : decode cX12_where 5 = .ok (.aload_n 0, 1) := by decide +kernel
theorem dX12_where_6 : decode cX12_where 6 = .ok (.aload_n 0, 1) := by decide +kernel
theorem dX12_where_7 : decode cX12_where 7 = .ok (.iload_n 1, 1) := by decide +kernel
theorem dX12_where_8 : decode cX12_where 8 = .ok (.invokevirtual 244, 3) := by decide +kernel
theorem dX12_where_11 : decode cX12_where 11 = .ok (.iconst 1, 1) := by decide +kernel
theorem dX12_where_12 : decode cX12_where 12 = .ok (.invokevirtual 240, 3) := by decide +kernel
theorem dX12_where_15 : decode cX12_where 15 = .ok (.ifCond .eq 7, 3) := by decide +kernel
theorem dX12_where_18 : decode cX12_where 18 = .ok (.iconst 0, 1) := by decide +kernel
theorem dX12_where_19 : decode cX12_where 19 = .ok (.goto 8, 3) := by decide +kernel
theorem dX12_where_22 : decode cX12_where 22 = .ok (.aload_n 0, 1) := by decide +kernel
theorem dX12_where_23 : decode cX12_where 23 = .ok (.iload_n 1, 1) := by decide +kernel
theorem dX12_where_24 : decode cX12_where 24 = .ok (.invokevirtual 247, 3) := by decide +kernel
theorem dX12_where_27 : decode cX12_where 27 = .ok (.ireturn, 1) := by decide +kernel
set_option maxRecDepth 100000 in
def F_X12_where_b27 (t0 : Int32) (h : Hp) : Option (Int32 × Hp) :=
  some (t0, h)
set_option maxHeartbeats 4000000 in
set_option maxRecDepth 100000 in
theorem r_X12_where_b27 (t0 : Int32) (h : Hp) {x : Cx} {r : Int32} {hz : Hp} (e : F_X12_where_b27 t0 h = some (r, hz)) (hF : Fin9 M_X12_where x (some .int) (some (.int r)) hz) : V M_X12_where x 2 27 [] [.int t0] h 0 0 := by
  unfold F_X12_where_b27 at e
  cases e
  exact V_iret (pc := 27) dX12_where_27 hF
set_option maxRecDepth 100000 in
def F_X12_where_b0 (v0 : Nat) (v1 : Int32) (h : Hp) : Option (Int32 × Hp) :=
  gd (decide (kd h v0 = 11)) <| ob (F_X12_noGuest v0 v1 (setI h v0 0 (0 : Int32))) fun r3 => ob2 (F_X12_throwsIf v0 r3 (1 : Int32) (setI h v0 0 (0 : Int32))) fun r5 h6 => (if r5 = 0 then ob (F_X12_roomOf v0 v1 h6) fun r8 => gd (decide (kd h6 v0 = 11)) <| F_X12_where_b27 r8 h6 else F_X12_where_b27 (0 : Int32) h6)
set_option maxHeartbeats 4000000 in
set_option maxRecDepth 100000 in
theorem r_X12_where_b0 (v0 : Nat) (v1 : Int32) (h : Hp) {x : Cx} {r : Int32} {hz : Hp} (e : F_X12_where_b0 v0 v1 h = some (r, hz)) (hF : Fin9 M_X12_where x (some .int) (some (.int r)) hz) : V M_X12_where x 2 0 [(0, .ref v0), (1, .int v1)] [] h 0 0 := by
  unfold F_X12_where_b0 at e
  refine V_aload_n (pc := 0) (i := 0) dX12_where_0 rfl rfl ?_
  refine V_iconst (pc := 1) (v := (0 : Int32)) dX12_where_1 (by decide) ?_
  obtain ⟨g1, e⟩ := gd_some e
  refine V_putI (pc := 2) (ci := 11) (k := 0) dX12_where_2 fp_X12_3 rfl (of_decide_eq_true g1) ?_
  refine V_aload_n (pc := 5) (i := 0) dX12_where_5 rfl rfl ?_
  refine V_aload_n (pc := 6) (i := 0) dX12_where_6 rfl rfl ?_
  refine V_iload_n (pc := 7) (i := 1) dX12_where_7 rfl rfl ?_
  obtain ⟨r3, g2, e⟩ := ob_some e
  refine V_callV (pc := 8) (bc := 0) (bs := 0) (mc := 0) (ms := 0) (st := [.ref v0]) (As := [.int v1]) (a := v0) (h' := (setI h v0 0 (0 : Int32))) (r := some (.int r3)) dX12_where_8 ml_X12_244 (ci := 11) rfl (kd_sI (of_decide_eq_true g1)) rfl rfl (Nat.le_of_ble_eq_true rfl) (d' := 1) (by decide) (c_X12_noGuest (l := x.2.1) v0 v1 (setI h v0 0 (0 : Int32)) g2) ?_
  refine V_iconst (pc := 11) (v := (1 : Int32)) dX12_where_11 (by decide) ?_
  obtain ⟨r5, h6, g4, e⟩ := ob2_some e
  refine V_callV (pc := 12) (bc := 0) (bs := 0) (mc := 0) (ms := 0) (st := []) (As := [.int r3, .int (1 : Int32)]) (a := v0) (h' := h6) (r := some (.int r5)) dX12_where_12 ml_X12_240 (ci := 11) rfl (kd_sI (of_decide_eq_true g1)) rfl rfl (Nat.le_of_ble_eq_true rfl) (d' := 0) (by decide) (c_X12_throwsIf (l := x.2.1) v0 r3 (1 : Int32) (setI h v0 0 (0 : Int32)) g4) ?_
  refine V_if_eq (pc := 15) (tgt := 22) dX12_where_15 (by decide) (fun c10 => ?_) (fun c10 => ?_)
  · rw [if_pos c10] at e
    refine V_pick [0, 1] rfl ?_
    refine V_aload_n (pc := 22) (i := 0) dX12_where_22 rfl rfl ?_
    refine V_iload_n (pc := 23) (i := 1) dX12_where_23 rfl rfl ?_
    obtain ⟨r8, g7, e⟩ := ob_some e
    obtain ⟨g9, e⟩ := gd_some e
    refine V_callV (pc := 24) (bc := 0) (bs := 0) (mc := 0) (ms := 0) (st := []) (As := [.int v1]) (a := v0) (h' := h6) (r := some (.int r8)) dX12_where_24 ml_X12_247 (ci := 11) rfl (of_decide_eq_true g9) rfl rfl (Nat.le_of_ble_eq_true rfl) (d' := 0) (by decide) (c_X12_roomOf (l := x.2.1) v0 v1 h6 g7) ?_
    exact V_pick [] rfl (r_X12_where_b27 r8 h6 e hF)
  · rw [if_neg c10] at e
    refine V_pick [] rfl ?_
    refine V_iconst (pc := 18) (v := (0 : Int32)) dX12_where_18 (by decide) ?_
    refine V_goto (pc := 19) (tgt := 27) dX12_where_19 (by decide) ?_
    exact V_pick [] rfl (r_X12_where_b27 (0 : Int32) h6 e hF)
def F_X12_where (v0 : Nat) (v1 : Int32) (h : Hp) : Option (Int32 × Hp) := F_X12_where_b0 v0 v1 h
theorem c_X12_where {l : Launch} (v0 : Nat) (v1 : Int32) (h : Hp) {r : Int32} {hz : Hp} (e : F_X12_where v0 v1 h = some (r, hz)) : Ct l yX12_where M_X12_where (some .int) 2 [.ref v0, .int v1] h 0 0 (some (.int r)) hz :=
  Ct_of rfl rfl (fun q => by cases q) (Nat.le_of_ble_eq_true rfl) (fun x _ hF => V_pick [0, 1] rfl (r_X12_where_b0 v0 v1 h e hF))
theorem dX12_trunk_0 : decode cX12_trunk 0 = .ok (.aload_n 0, 1) := by decide +kernel
theorem dX12_trunk_1 : decode cX12_trunk 1 = .ok (.iconst 0, 1) := by decide +kernel
theorem dX12_trunk_2 : decode cX12_trunk 2 = .ok (.putfield 3, 3) := by decide +kernel
theorem dX12_trunk_5 : decode cX12_trunk 5 = .ok (.aload_n 0, 1) := by decide +kernel
theorem dX12_trunk_6 : decode cX12_trunk 6 = .ok (.aload_n 0, 1) := by decide +kernel
theorem dX12_trunk_7 : decode cX12_trunk 7 = .ok (.iload_n 1, 1) := by decide +kernel
theorem dX12_trunk_8 : decode cX12_trunk 8 = .ok (.invokevirtual 287, 3) := by decide +kernel
theorem dX12_trunk_11 : decode cX12_trunk 11 = .ok (.iconst 1, 1) := by decide +kernel
theorem dX12_trunk_12 : decode cX12_trunk 12 = .ok (.invokevirtual 240, 3) := by decide +kernel
theorem dX12_trunk_15 : decode cX12_trunk 15 = .ok (.ifCond .ne 25, 3) := by decide +kernel
theorem dX12_trunk_18 : decode cX12_trunk 18 = .ok (.aload_n 0, 1) := by decide +kernel
theorem dX12_trunk_19 : decode cX12_trunk 19 = .ok (.iload_n 2, 1) := by decide +kernel
theorem dX12_trunk_20 : decode cX12_trunk 20 = .ok (.iconst 0, 1) := by decide +kernel
theorem dX12_trunk_21 : decode cX12_trunk 21 = .ok (.iconst 2, 1) := by decide +kernel
theorem dX12_trunk_22 : decode cX12_trunk 22 = .ok (.invokestatic 64, 3) := by decide +kernel
theorem dX12_trunk_25 : decode cX12_trunk 25 = .ok (.ifCond .ne 7, 3) := by decide +kernel
theorem dX12_trunk_28 : decode cX12_trunk 28 = .ok (.iconst 1, 1) := by decide +kernel
theorem dX12_trunk_29 : decode cX12_trunk 29 = .ok (.goto 4, 3) := by decide +kernel
theorem dX12_trunk_32 : decode cX12_trunk 32 = .ok (.iconst 0, 1) := by decide +kernel
theorem dX12_trunk_33 : decode cX12_trunk 33 = .ok (.iconst 2, 1) := by decide +kernel
theorem dX12_trunk_34 : decode cX12_trunk 34 = .ok (.invokevirtual 240, 3) := by decide +kernel
theorem dX12_trunk_37 : decode cX12_trunk 37 = .ok (.ifCond .eq 7, 3) := by decide +kernel
theorem dX12_trunk_40 : decode cX12_trunk 40 = .ok (.iconst 0, 1) := by decide +kernel
theorem dX12_trunk_41 : decode cX12_trunk 41 = .ok (.goto 9, 3) := by decide +kernel
theorem dX12_trunk_44 : decode cX12_trunk 44 = .ok (.aload_n 0, 1) := by decide +kernel
theorem dX12_trunk_45 : decode cX12_trunk 45 = .ok (.iload_n 1, 1) := by decide +kernel
theorem dX12_trunk_46 : decode cX12_trunk 46 = .ok (.iload_n 2, 1) := by decide +kernel
theorem dX12_trunk_47 : decode cX12_trunk 47 = .ok (.invokevirtual 265, 3) := by decide +kernel
theorem dX12_trunk_50 : decode cX12_trunk 50 = .ok (.ireturn, 1) := by decide +kernel
set_option maxRecDepth 100000 in
def F_X12_trunk_b50 (t0 : Int32) (h : Hp) : Option (Int32 × Hp) :=
  some (t0, h)
set_option maxHeartbeats 4000000 in
set_option maxRecDepth 100000 in
theorem r_X12_trunk_b50 (t0 : Int32) (h : Hp) {x : Cx} {r : Int32} {hz : Hp} (e : F_X12_trunk_b50 t0 h = some (r, hz)) (hF : Fin9 M_X12_trunk x (some .int) (some (.int r)) hz) : V M_X12_trunk x 2 50 [] [.int t0] h 0 0 := by
  unfold F_X12_trunk_b50 at e
  cases e
  exact V_iret (pc := 50) dX12_trunk_50 hF
set_option maxRecDepth 100000 in
def F_X12_trunk_b40  (h : Hp) : Option (Int32 × Hp) :=
  F_X12_trunk_b50 (0 : Int32) h
set_option maxHeartbeats 4000000 in
set_option maxRecDepth 100000 in
theorem r_X12_trunk_b40  (h : Hp) {x : Cx} {r : Int32} {hz : Hp} (e : F_X12_trunk_b40  h = some (r, hz)) (hF : Fin9 M_X12_trunk x (some .int) (some (.int r)) hz) : V M_X12_trunk x 2 40 [] [] h 0 0 := by
  unfold F_X12_trunk_b40 at e
  refine V_iconst (pc := 40) (v := (0 : Int32)) dX12_trunk_40 (by decide) ?_
  refine V_goto (pc := 41) (tgt := 50) dX12_trunk_41 (by decide) ?_
  exact V_pick [] rfl (r_X12_trunk_b50 (0 : Int32) h e hF)
set_option maxRecDepth 100000 in
def F_X12_trunk_b33 (v0 : Nat) (v1 : Int32) (v2 : Int32) (t0 : Nat) (t1 : Int32) (h : Hp) : Option (Int32 × Hp) :=
  ob2 (F_X12_throwsIf t0 t1 (2 : Int32) h) fun r10 h11 => gd (decide (kd h t0 = 11)) <| (if r10 = 0 then ob (F_X12_ofTrunk v0 v1 v2 h11) fun r14 => gd (decide (kd h11 v0 = 11)) <| F_X12_trunk_b50 r14 h11 else F_X12_trunk_b40 h11)
set_option maxHeartbeats 4000000 in
set_option maxRecDepth 100000 in
theorem r_X12_trunk_b33 (v0 : Nat) (v1 : Int32) (v2 : Int32) (t0 : Nat) (t1 : Int32) (h : Hp) {x : Cx} {r : Int32} {hz : Hp} (e : F_X12_trunk_b33 v0 v1 v2 t0 t1 h = some (r, hz)) (hF : Fin9 M_X12_trunk x (some .int) (some (.int r)) hz) : V M_X12_trunk x 2 33 [(0, .ref v0), (1, .int v1), (2, .int v2)] [.int t1, .ref t0] h 0 0 := by
  unfold F_X12_trunk_b33 at e
  refine V_iconst (pc := 33) (v := (2 : Int32)) dX12_trunk_33 (by decide) ?_
  obtain ⟨r10, h11, g9, e⟩ := ob2_some e
  obtain ⟨g12, e⟩ := gd_some e
  refine V_callV (pc := 34) (bc := 0) (bs := 0) (mc := 0) (ms := 0) (st := []) (As := [.int t1, .int (2 : Int32)]) (a := t0) (h' := h11) (r := some (.int r10)) dX12_trunk_34 ml_X12_240 (ci := 11) rfl (of_decide_eq_true g12) rfl rfl (Nat.le_of_ble_eq_true rfl) (d' := 0) (by decide) (c_X12_throwsIf (l := x.2.1) t0 t1 (2 : Int32) h g9) ?_
  refine V_if_eq (pc := 37) (tgt := 44) dX12_trunk_37 (by decide) (fun c16 => ?_) (fun c16 => ?_)
  · rw [if_pos c16] at e
    refine V_pick [0, 1, 2] rfl ?_
    refine V_aload_n (pc := 44) (i := 0) dX12_trunk_44 rfl rfl ?_
    refine V_iload_n (pc := 45) (i := 1) dX12_trunk_45 rfl rfl ?_
    refine V_iload_n (pc := 46) (i := 2) dX12_trunk_46 rfl rfl ?_
    obtain ⟨r14, g13, e⟩ := ob_some e
    obtain ⟨g15, e⟩ := gd_some e
    refine V_callV (pc := 47) (bc := 0) (bs := 0) (mc := 0) (ms := 0) (st := []) (As := [.int v1, .int v2]) (a := v0) (h' := h11) (r := some (.int r14)) dX12_trunk_47 ml_X12_265 (ci := 11) rfl (of_decide_eq_true g15) rfl rfl (Nat.le_of_ble_eq_true rfl) (d' := 0) (by decide) (c_X12_ofTrunk (l := x.2.1) v0 v1 v2 h11 g13) ?_
    exact V_pick [] rfl (r_X12_trunk_b50 r14 h11 e hF)
  · rw [if_neg c16] at e
    exact V_pick [] rfl (r_X12_trunk_b40 h11 e hF)
set_option maxRecDepth 100000 in
def F_X12_trunk_b0 (v0 : Nat) (v1 : Int32) (v2 : Int32) (h : Hp) : Option (Int32 × Hp) :=
  gd (decide (kd h v0 = 11)) <| ob (F_X12_noTrunk v0 v1 (setI h v0 0 (0 : Int32))) fun r3 => ob2 (F_X12_throwsIf v0 r3 (1 : Int32) (setI h v0 0 (0 : Int32))) fun r5 h6 => (if r5 = 0 then ob (F_X12_in v2 (0 : Int32) (2 : Int32) h6) fun r8 => (if r8 = 0 then F_X12_trunk_b33 v0 v1 v2 v0 (1 : Int32) h6 else F_X12_trunk_b33 v0 v1 v2 v0 (0 : Int32) h6) else F_X12_trunk_b40 h6)
set_option maxHeartbeats 4000000 in
set_option maxRecDepth 100000 in
theorem r_X12_trunk_b0 (v0 : Nat) (v1 : Int32) (v2 : Int32) (h : Hp) {x : Cx} {r : Int32} {hz : Hp} (e : F_X12_trunk_b0 v0 v1 v2 h = some (r, hz)) (hF : Fin9 M_X12_trunk x (some .int) (some (.int r)) hz) : V M_X12_trunk x 2 0 [(0, .ref v0), (1, .int v1), (2, .int v2)] [] h 0 0 := by
  unfold F_X12_trunk_b0 at e
  refine V_aload_n (pc := 0) (i := 0) dX12_trunk_0 rfl rfl ?_
  refine V_iconst (pc := 1) (v := (0 : Int32)) dX12_trunk_1 (by decide) ?_
  obtain ⟨g1, e⟩ := gd_some e
  refine V_putI (pc := 2) (ci := 11) (k := 0) dX12_trunk_2 fp_X12_3 rfl (of_decide_eq_true g1) ?_
  refine V_aload_n (pc := 5) (i := 0) dX12_trunk_5 rfl rfl ?_
  refine V_aload_n (pc := 6) (i := 0) dX12_trunk_6 rfl rfl ?_
  refine V_iload_n (pc := 7) (i := 1) dX12_trunk_7 rfl rfl ?_
  obtain ⟨r3, g2, e⟩ := ob_some e
  refine V_callV (pc := 8) (bc := 0) (bs := 0) (mc := 0) (ms := 0) (st := [.ref v0]) (As := [.int v1]) (a := v0) (h' := (setI h v0 0 (0 : Int32))) (r := some (.int r3)) dX12_trunk_8 ml_X12_287 (ci := 11) rfl (kd_sI (of_decide_eq_true g1)) rfl rfl (Nat.le_of_ble_eq_true rfl) (d' := 1) (by decide) (c_X12_noTrunk (l := x.2.1) v0 v1 (setI h v0 0 (0 : Int32)) g2) ?_
  refine V_iconst (pc := 11) (v := (1 : Int32)) dX12_trunk_11 (by decide) ?_
  obtain ⟨r5, h6, g4, e⟩ := ob2_some e
  refine V_callV (pc := 12) (bc := 0) (bs := 0) (mc := 0) (ms := 0) (st := []) (As := [.int r3, .int (1 : Int32)]) (a := v0) (h' := h6) (r := some (.int r5)) dX12_trunk_12 ml_X12_240 (ci := 11) rfl (kd_sI (of_decide_eq_true g1)) rfl rfl (Nat.le_of_ble_eq_true rfl) (d' := 0) (by decide) (c_X12_throwsIf (l := x.2.1) v0 r3 (1 : Int32) (setI h v0 0 (0 : Int32)) g4) ?_
  refine V_if_ne (pc := 15) (tgt := 40) dX12_trunk_15 (by decide) (fun c18 => ?_) (fun c18 => ?_)
  · rw [if_neg c18] at e
    exact V_pick [] rfl (r_X12_trunk_b40 h6 e hF)
  · rw [if_pos c18] at e
    refine V_pick [0, 1, 2] rfl ?_
    refine V_aload_n (pc := 18) (i := 0) dX12_trunk_18 rfl rfl ?_
    refine V_iload_n (pc := 19) (i := 2) dX12_trunk_19 rfl rfl ?_
    refine V_iconst (pc := 20) (v := (0 : Int32)) dX12_trunk_20 (by decide) ?_
    refine V_iconst (pc := 21) (v := (2 : Int32)) dX12_trunk_21 (by decide) ?_
    obtain ⟨r8, g7, e⟩ := ob_some e
    refine V_callS (pc := 22) (bc := 0) (bs := 0) (mc := 0) (ms := 0) (st := [.ref v0]) (As := [.int v2, .int (0 : Int32), .int (2 : Int32)]) (h' := h6) (r := some (.int r8)) dX12_trunk_22 ml_X12_64 rfl rfl (Nat.le_of_ble_eq_true rfl) (d' := 0) (by decide) (c_X12_in (l := x.2.1) v2 (0 : Int32) (2 : Int32) h6 g7) ?_
    refine V_if_ne (pc := 25) (tgt := 32) dX12_trunk_25 (by decide) (fun c17 => ?_) (fun c17 => ?_)
    · rw [if_neg c17] at e
      refine V_pick [0, 1, 2] rfl ?_
      refine V_iconst (pc := 32) (v := (0 : Int32)) dX12_trunk_32 (by decide) ?_
      exact V_pick [0, 1, 2] rfl (r_X12_trunk_b33 v0 v1 v2 v0 (0 : Int32) h6 e hF)
    · rw [if_pos c17] at e
      refine V_pick [0, 1, 2] rfl ?_
      refine V_iconst (pc := 28) (v := (1 : Int32)) dX12_trunk_28 (by decide) ?_
      refine V_goto (pc := 29) (tgt := 33) dX12_trunk_29 (by decide) ?_
      exact V_pick [0, 1, 2] rfl (r_X12_trunk_b33 v0 v1 v2 v0 (1 : Int32) h6 e hF)
def F_X12_trunk (v0 : Nat) (v1 : Int32) (v2 : Int32) (h : Hp) : Option (Int32 × Hp) := F_X12_trunk_b0 v0 v1 v2 h
theorem c_X12_trunk {l : Launch} (v0 : Nat) (v1 : Int32) (v2 : Int32) (h : Hp) {r : Int32} {hz : Hp} (e : F_X12_trunk v0 v1 v2 h = some (r, hz)) : Ct l yX12_trunk M_X12_trunk (some .int) 2 [.ref v0, .int v1, .int v2] h 0 0 (some (.int r)) hz :=
  Ct_of rfl rfl (fun q => by cases q) (Nat.le_of_ble_eq_true rfl) (fun x _ hF => V_pick [0, 1, 2] rfl (r_X12_trunk_b0 v0 v1 v2 h e hF))
theorem dX12_go_0 : decode cX12_go 0 = .ok (.aload_n 0, 1) := by decide +kernel
theorem dX12_go_1 : decode cX12_go 1 = .ok (.iconst 0, 1) := by decide +kernel
theorem dX12_go_2 : decode cX12_go 2 = .ok (.putfield 3, 3) := by decide +kernel
theorem dX12_go_5 : decode cX12_go 5 = .ok (.aload_n 0, 1) := by decide +kernel
theorem dX12_go_6 : decode cX12_go 6 = .ok (.aload_n 0, 1) := by decide +kernel
theorem dX12_go_7 : decode cX12_go 7 = .ok (.iload_n 1, 1) := by decide +kernel
theorem dX12_go_8 : decode cX12_go 8 = .ok (.invokevirtual 244, 3) := by decide +kernel
theorem dX12_go_11 : decode cX12_go 11 = .ok (.ifCond .ne 11, 3) := by decide +kernel
theorem dX12_go_14 : decode cX12_go 14 = .ok (.aload_n 0, 1) := by decide +kernel
theorem dX12_go_15 : decode cX12_go 15 = .ok (.iload_n 2, 1) := by decide +kernel
theorem dX12_go_16 : decode cX12_go 16 = .ok (.invokevirtual 250, 3) := by decide +kernel
theorem dX12_go_19 : decode cX12_go 19 = .ok (.ifCond .eq 7, 3) := by decide +kernel
theorem dX12_go_22 : decode cX12_go 22 = .ok (.iconst 1, 1) := by decide +kernel
theorem dX12_go_23 : decode cX12_go 23 = .ok (.goto 4, 3) := by decide +kernel
theorem dX12_go_26 : decode cX12_go 26 = .ok (.iconst 0, 1) := by decide +kernel
theorem dX12_go_27 : decode cX12_go 27 = .ok (.iconst 1, 1) := by decide +kernel
theorem dX12_go_28 : decode cX12_go 28 = .ok (.invokevirtual 240, 3) := by decide +kernel
theorem dX12_go_31 : decode cX12_go 31 = .ok (.ifCond .eq 5, 3) := by decide +kernel
theorem dX12_go_34 : decode cX12_go 34 = .ok (.iconst 0, 1) := by decide +kernel
theorem dX12_go_35 : decode cX12_go 35 = .ok (.ireturn, 1) := by decide +kernel
theorem dX12_go_36 : decode cX12_go 36 = .ok (.aload_n 0, 1) := by decide +kernel
theorem dX12_go_37 : decode cX12_go 37 = .ok (.iload_n 1, 1) := by decide +kernel
theorem dX12_go_38 : decode cX12_go 38 = .ok (.invokevirtual 247, 3) := by decide +kernel
theorem dX12_go_41 : decode cX12_go 41 = .ok (.istore_n 3, 1) := by decide +kernel
theorem dX12_go_42 : decode cX12_go 42 = .ok (.aload_n 0, 1) := by decide +kernel
theorem dX12_go_43 : decode cX12_go 43 = .ok (.getfield 13, 3) := by decide +kernel
theorem dX12_go_46 : decode cX12_go 46 = .ok (.bipush 43, 2) := by decide +kernel
theorem dX12_go_48 : decode cX12_go 48 = .ok (.iconst 2, 1) := by decide +kernel
theorem dX12_go_49 : decode cX12_go 49 = .ok (.iload_n 1, 1) := by decide +kernel
theorem dX12_go_50 : decode cX12_go 50 = .ok (.imul, 1) := by decide +kernel
theorem dX12_go_51 : decode cX12_go 51 = .ok (.iadd, 1) := by decide +kernel
theorem dX12_go_52 : decode cX12_go 52 = .ok (.iconst 1, 1) := by decide +kernel
theorem dX12_go_53 : decode cX12_go 53 = .ok (.iadd, 1) := by decide +kernel
theorem dX12_go_54 : decode cX12_go 54 = .ok (.iload_n 2, 1) := by decide +kernel
theorem dX12_go_55 : decode cX12_go 55 = .ok (.iastore, 1) := by decide +kernel
theorem dX12_go_56 : decode cX12_go 56 = .ok (.iload_n 3, 1) := by decide +kernel
theorem dX12_go_57 : decode cX12_go 57 = .ok (.ireturn, 1) := by decide +kernel
set_option maxRecDepth 100000 in
def F_X12_go_b27 (v0 : Nat) (v1 : Int32) (v2 : Int32) (t0 : Nat) (t1 : Int32) (h : Hp) : Option (Int32 × Hp) :=
  ob2 (F_X12_throwsIf t0 t1 (1 : Int32) h) fun r5 h6 => gd (decide (kd h t0 = 11)) <| (if r5 = 0 then ob (F_X12_roomOf v0 v1 h6) fun r9 => gd (decide (kd h6 v0 = 11)) <| ob (zR h6 v0 1) fun q11 => gd (decide (kd h6 q11 = 13)) <| gd (ix (((43 : Int32) + ((2 : Int32) * v1)) + (1 : Int32)) (zl h6 q11)) <| some (r9, setI h6 q11 (((43 : Int32) + ((2 : Int32) * v1)) + (1 : Int32)).toNatClampNeg v2) else some ((0 : Int32), h6))
set_option maxHeartbeats 4000000 in
set_option maxRecDepth 100000 in
theorem r_X12_go_b27 (v0 : Nat) (v1 : Int32) (v2 : Int32) (t0 : Nat) (t1 : Int32) (h : Hp) {x : Cx} {r : Int32} {hz : Hp} (e : F_X12_go_b27 v0 v1 v2 t0 t1 h = some (r, hz)) (hF : Fin9 M_X12_go x (some .int) (some (.int r)) hz) : V M_X12_go x 2 27 [(0, .ref v0), (1, .int v1), (2, .int v2)] [.int t1, .ref t0] h 0 0 := by
  unfold F_X12_go_b27 at e
  refine V_iconst (pc := 27) (v := (1 : Int32)) dX12_go_27 (by decide) ?_
  obtain ⟨r5, h6, g4, e⟩ := ob2_some e
  obtain ⟨g7, e⟩ := gd_some e
  refine V_callV (pc := 28) (bc := 0) (bs := 0) (mc := 0) (ms := 0) (st := []) (As := [.int t1, .int (1 : Int32)]) (a := t0) (h' := h6) (r := some (.int r5)) dX12_go_28 ml_X12_240 (ci := 11) rfl (of_decide_eq_true g7) rfl rfl (Nat.le_of_ble_eq_true rfl) (d' := 0) (by decide) (c_X12_throwsIf (l := x.2.1) t0 t1 (1 : Int32) h g4) ?_
  refine V_if_eq (pc := 31) (tgt := 36) dX12_go_31 (by decide) (fun c15 => ?_) (fun c15 => ?_)
  · rw [if_pos c15] at e
    refine V_pick [0, 1, 2] rfl ?_
    refine V_aload_n (pc := 36) (i := 0) dX12_go_36 rfl rfl ?_
    refine V_iload_n (pc := 37) (i := 1) dX12_go_37 rfl rfl ?_
    obtain ⟨r9, g8, e⟩ := ob_some e
    obtain ⟨g10, e⟩ := gd_some e
    refine V_callV (pc := 38) (bc := 0) (bs := 0) (mc := 0) (ms := 0) (st := []) (As := [.int v1]) (a := v0) (h' := h6) (r := some (.int r9)) dX12_go_38 ml_X12_247 (ci := 11) rfl (of_decide_eq_true g10) rfl rfl (Nat.le_of_ble_eq_true rfl) (d' := 0) (by decide) (c_X12_roomOf (l := x.2.1) v0 v1 h6 g8) ?_
    refine V_istore_n (pc := 41) (i := 3) (lv' := [(3, .int r9), (0, .ref v0), (1, .int v1), (2, .int v2)]) dX12_go_41 rfl (by decide) rfl ?_
    refine V_aload_n (pc := 42) (i := 0) dX12_go_42 rfl rfl ?_
    obtain ⟨q11, g12, e⟩ := ob_some e
    refine V_getR (pc := 43) (ci := 11) (k := 1) (b := q11) dX12_go_43 fl_X12_13 rfl (of_decide_eq_true g10) g12 ?_
    refine V_bipush (pc := 46) (v := (43 : Int32)) dX12_go_46 (by decide) ?_
    refine V_iconst (pc := 48) (v := (2 : Int32)) dX12_go_48 (by decide) ?_
    refine V_iload_n (pc := 49) (i := 1) dX12_go_49 rfl rfl ?_
    refine V_imul (pc := 50) dX12_go_50 ?_
    refine V_iadd (pc := 51) dX12_go_51 ?_
    refine V_iconst (pc := 52) (v := (1 : Int32)) dX12_go_52 (by decide) ?_
    refine V_iadd (pc := 53) dX12_go_53 ?_
    refine V_iload_n (pc := 54) (i := 2) dX12_go_54 rfl rfl ?_
    obtain ⟨g13, e⟩ := gd_some e
    obtain ⟨g14, e⟩ := gd_some e
    refine V_iast (pc := 55) dX12_go_55 (of_decide_eq_true g13) (ix_in g14) ?_
    refine V_iload_n (pc := 56) (i := 3) dX12_go_56 rfl rfl ?_
    cases e
    exact V_iret (pc := 57) dX12_go_57 hF
  · rw [if_neg c15] at e
    refine V_pick [] rfl ?_
    refine V_iconst (pc := 34) (v := (0 : Int32)) dX12_go_34 (by decide) ?_
    cases e
    exact V_iret (pc := 35) dX12_go_35 hF
set_option maxRecDepth 100000 in
def F_X12_go_b22 (v0 : Nat) (v1 : Int32) (v2 : Int32) (t0 : Nat) (h : Hp) : Option (Int32 × Hp) :=
  F_X12_go_b27 v0 v1 v2 t0 (1 : Int32) h
set_option maxHeartbeats 4000000 in
set_option maxRecDepth 100000 in
theorem r_X12_go_b22 (v0 : Nat) (v1 : Int32) (v2 : Int32) (t0 : Nat) (h : Hp) {x : Cx} {r : Int32} {hz : Hp} (e : F_X12_go_b22 v0 v1 v2 t0 h = some (r, hz)) (hF : Fin9 M_X12_go x (some .int) (some (.int r)) hz) : V M_X12_go x 2 22 [(0, .ref v0), (1, .int v1), (2, .int v2)] [.ref t0] h 0 0 := by
  unfold F_X12_go_b22 at e
  refine V_iconst (pc := 22) (v := (1 : Int32)) dX12_go_22 (by decide) ?_
  refine V_goto (pc := 23) (tgt := 27) dX12_go_23 (by decide) ?_
  exact V_pick [0, 1, 2] rfl (r_X12_go_b27 v0 v1 v2 t0 (1 : Int32) h e hF)
set_option maxRecDepth 100000 in
def F_X12_go_b0 (v0 : Nat) (v1 : Int32) (v2 : Int32) (h : Hp) : Option (Int32 × Hp) :=
  gd (decide (kd h v0 = 11)) <| ob (F_X12_noGuest v0 v1 (setI h v0 0 (0 : Int32))) fun r3 => (if r3 = 0 then ob (F_X12_noRoom v0 v2 (setI h v0 0 (0 : Int32))) fun r17 => (if r17 = 0 then F_X12_go_b27 v0 v1 v2 v0 (0 : Int32) (setI h v0 0 (0 : Int32)) else F_X12_go_b22 v0 v1 v2 v0 (setI h v0 0 (0 : Int32))) else F_X12_go_b22 v0 v1 v2 v0 (setI h v0 0 (0 : Int32)))
set_option maxHeartbeats 4000000 in
set_option maxRecDepth 100000 in
theorem r_X12_go_b0 (v0 : Nat) (v1 : Int32) (v2 : Int32) (h : Hp) {x : Cx} {r : Int32} {hz : Hp} (e : F_X12_go_b0 v0 v1 v2 h = some (r, hz)) (hF : Fin9 M_X12_go x (some .int) (some (.int r)) hz) : V M_X12_go x 2 0 [(0, .ref v0), (1, .int v1), (2, .int v2)] [] h 0 0 := by
  unfold F_X12_go_b0 at e
  refine V_aload_n (pc := 0) (i := 0) dX12_go_0 rfl rfl ?_
  refine V_iconst (pc := 1) (v := (0 : Int32)) dX12_go_1 (by decide) ?_
  obtain ⟨g1, e⟩ := gd_some e
  refine V_putI (pc := 2) (ci := 11) (k := 0) dX12_go_2 fp_X12_3 rfl (of_decide_eq_true g1) ?_
  refine V_aload_n (pc := 5) (i := 0) dX12_go_5 rfl rfl ?_
  refine V_aload_n (pc := 6) (i := 0) dX12_go_6 rfl rfl ?_
  refine V_iload_n (pc := 7) (i := 1) dX12_go_7 rfl rfl ?_
  obtain ⟨r3, g2, e⟩ := ob_some e
  refine V_callV (pc := 8) (bc := 0) (bs := 0) (mc := 0) (ms := 0) (st := [.ref v0]) (As := [.int v1]) (a := v0) (h' := (setI h v0 0 (0 : Int32))) (r := some (.int r3)) dX12_go_8 ml_X12_244 (ci := 11) rfl (kd_sI (of_decide_eq_true g1)) rfl rfl (Nat.le_of_ble_eq_true rfl) (d' := 1) (by decide) (c_X12_noGuest (l := x.2.1) v0 v1 (setI h v0 0 (0 : Int32)) g2) ?_
  refine V_if_ne (pc := 11) (tgt := 22) dX12_go_11 (by decide) (fun c19 => ?_) (fun c19 => ?_)
  · rw [if_neg c19] at e
    exact V_pick [0, 1, 2] rfl (r_X12_go_b22 v0 v1 v2 v0 (setI h v0 0 (0 : Int32)) e hF)
  · rw [if_pos c19] at e
    refine V_pick [0, 1, 2] rfl ?_
    refine V_aload_n (pc := 14) (i := 0) dX12_go_14 rfl rfl ?_
    refine V_iload_n (pc := 15) (i := 2) dX12_go_15 rfl rfl ?_
    obtain ⟨r17, g16, e⟩ := ob_some e
    refine V_callV (pc := 16) (bc := 0) (bs := 0) (mc := 0) (ms := 0) (st := [.ref v0]) (As := [.int v2]) (a := v0) (h' := (setI h v0 0 (0 : Int32))) (r := some (.int r17)) dX12_go_16 ml_X12_250 (ci := 11) rfl (kd_sI (of_decide_eq_true g1)) rfl rfl (Nat.le_of_ble_eq_true rfl) (d' := 1) (by decide) (c_X12_noRoom (l := x.2.1) v0 v2 (setI h v0 0 (0 : Int32)) g16) ?_
    refine V_if_eq (pc := 19) (tgt := 26) dX12_go_19 (by decide) (fun c18 => ?_) (fun c18 => ?_)
    · rw [if_pos c18] at e
      refine V_pick [0, 1, 2] rfl ?_
      refine V_iconst (pc := 26) (v := (0 : Int32)) dX12_go_26 (by decide) ?_
      exact V_pick [0, 1, 2] rfl (r_X12_go_b27 v0 v1 v2 v0 (0 : Int32) (setI h v0 0 (0 : Int32)) e hF)
    · rw [if_neg c18] at e
      exact V_pick [0, 1, 2] rfl (r_X12_go_b22 v0 v1 v2 v0 (setI h v0 0 (0 : Int32)) e hF)
def F_X12_go (v0 : Nat) (v1 : Int32) (v2 : Int32) (h : Hp) : Option (Int32 × Hp) := F_X12_go_b0 v0 v1 v2 h
theorem c_X12_go {l : Launch} (v0 : Nat) (v1 : Int32) (v2 : Int32) (h : Hp) {r : Int32} {hz : Hp} (e : F_X12_go v0 v1 v2 h = some (r, hz)) : Ct l yX12_go M_X12_go (some .int) 2 [.ref v0, .int v1, .int v2] h 0 0 (some (.int r)) hz :=
  Ct_of rfl rfl (fun q => by cases q) (Nat.le_of_ble_eq_true rfl) (fun x _ hF => V_pick [0, 1, 2] rfl (r_X12_go_b0 v0 v1 v2 h e hF))
theorem dX12_moment_0 : decode cX12_moment 0 = .ok (.aload_n 0, 1) := by decide +kernel
theorem dX12_moment_1 : decode cX12_moment 1 = .ok (.iconst 0, 1) := by decide +kernel
theorem dX12_moment_2 : decode cX12_moment 2 = .ok (.putfield 3, 3) := by decide +kernel
theorem dX12_moment_5 : decode cX12_moment 5 = .ok (.aload_n 0, 1) := by decide +kernel
theorem dX12_moment_6 : decode cX12_moment 6 = .ok (.iload_n 2, 1) := by decide +kernel
theorem dX12_moment_7 : decode cX12_moment 7 = .ok (.iconst 0, 1) := by decide +kernel
theorem dX12_moment_8 : decode cX12_moment 8 = .ok (.iconst 2, 1) := by decide +kernel
theorem dX12_moment_9 : decode cX12_moment 9 = .ok (.invokestatic 64, 3) := by decide +kernel
theorem dX12_moment_12 : decode cX12_moment 12 = .ok (.ifCond .ne 7, 3) := by decide +kernel
theorem dX12_moment_15 : decode cX12_moment 15 = .ok (.iconst 1, 1) := by decide +kernel
theorem dX12_moment_16 : decode cX12_moment 16 = .ok (.goto 4, 3) := by decide +kernel
theorem dX12_moment_19 : decode cX12_moment 19 = .ok (.iconst 0, 1) := by decide +kernel
theorem dX12_moment_20 : decode cX12_moment 20 = .ok (.iconst 1, 1) := by decide +kernel
theorem dX12_moment_21 : decode cX12_moment 21 = .ok (.invokevirtual 240, 3) := by decide +kernel
theorem dX12_moment_24 : decode cX12_moment 24 = .ok (.ifCond .eq 5, 3) := by decide +kernel
theorem dX12_moment_27 : decode cX12_moment 27 = .ok (.iconst 0, 1) := by decide +kernel
theorem dX12_moment_28 : decode cX12_moment 28 = .ok (.ireturn, 1) := by decide +kernel
theorem dX12_moment_29 : decode cX12_moment 29 = .ok (.aload_n 0, 1) := by decide +kernel
theorem dX12_moment_30 : decode cX12_moment 30 = .ok (.invokevirtual 290, 3) := by decide +kernel
theorem dX12_moment_33 : decode cX12_moment 33 = .ok (.iload_n 1, 1) := by decide +kernel
theorem dX12_moment_34 : decode cX12_moment 34 = .ok (.ifCond .eq 7, 3) := by decide +kernel
theorem dX12_moment_37 : decode cX12_moment 37 = .ok (.iconst 1, 1) := by decide +kernel
theorem dX12_moment_38 : decode cX12_moment 38 = .ok (.goto 4, 3) := by decide +kernel
theorem dX12_moment_41 : decode cX12_moment 41 = .ok (.iconst 0, 1) := by decide +kernel
theorem dX12_moment_42 : decode cX12_moment 42 = .ok (.istore_n 3, 1) := by decide +kernel
theorem dX12_moment_43 : decode cX12_moment 43 = .ok (.aload_n 0, 1) := by decide +kernel
theorem dX12_moment_44 : decode cX12_moment 44 = .ok (.iload_n 3, 1) := by decide +kernel
theorem dX12_moment_45 : decode cX12_moment 45 = .ok (.invokevirtual 278, 3) := by decide +kernel
theorem dX12_moment_48 : decode cX12_moment 48 = .ok (.iload_n 2, 1) := by decide +kernel
theorem dX12_moment_49 : decode cX12_moment 49 = .ok (.ifCond .ne 7, 3) := by decide +kernel
theorem dX12_moment_52 : decode cX12_moment 52 = .ok (.iconst 0, 1) := by decide +kernel
theorem dX12_moment_53 : decode cX12_moment 53 = .ok (.goto 18, 3) := by decide +kernel
theorem dX12_moment_56 : decode cX12_moment 56 = .ok (.aload_n 0, 1) := by decide +kernel
theorem dX12_moment_57 : decode cX12_moment 57 = .ok (.iload_n 3, 1) := by decide +kernel
theorem dX12_moment_58 : decode cX12_moment 58 = .ok (.iload_n 2, 1) := by decide +kernel
theorem dX12_moment_59 : decode cX12_moment 59 = .ok (.iconst 2, 1) := by decide +kernel
theorem dX12_moment_60 : decode cX12_moment 60 = .ok (.if_icmp .ne 7, 3) := by decide +kernel
theorem dX12_moment_63 : decode cX12_moment 63 = .ok (.iconst 1, 1) := by decide +kernel
theorem dX12_moment_64 : decode cX12_moment 64 = .ok (.goto 4, 3) := by decide +kernel
theorem dX12_moment_67 : decode cX12_moment 67 = .ok (.iconst 0, 1) := by decide +kernel
theorem dX12_moment_68 : decode cX12_moment 68 = .ok (.invokevirtual 274, 3) := by decide +kernel
theorem dX12_moment_71 : decode cX12_moment 71 = .ok (.iadd, 1) := by decide +kernel
theorem dX12_moment_72 : decode cX12_moment 72 = .ok (.ireturn, 1) := by decide +kernel
set_option maxRecDepth 100000 in
def F_X12_moment_b71 (t0 : Int32) (t1 : Int32) (h : Hp) : Option (Int32 × Hp) :=
  some (t0 + t1, h)
set_option maxHeartbeats 4000000 in
set_option maxRecDepth 100000 in
theorem r_X12_moment_b71 (t0 : Int32) (t1 : Int32) (h : Hp) {x : Cx} {r : Int32} {hz : Hp} (e : F_X12_moment_b71 t0 t1 h = some (r, hz)) (hF : Fin9 M_X12_moment x (some .int) (some (.int r)) hz) : V M_X12_moment x 5 71 [] [.int t1, .int t0] h 0 0 := by
  unfold F_X12_moment_b71 at e
  refine V_iadd (pc := 71) dX12_moment_71 ?_
  cases e
  exact V_iret (pc := 72) dX12_moment_72 hF
set_option maxRecDepth 100000 in
def F_X12_moment_b68 (t0 : Int32) (t1 : Nat) (t2 : Int32) (t3 : Int32) (h : Hp) : Option (Int32 × Hp) :=
  ob (F_X12_trunksBy t1 t2 t3 h) fun r16 => gd (decide (kd h t1 = 11)) <| F_X12_moment_b71 t0 r16 h
set_option maxHeartbeats 4000000 in
set_option maxRecDepth 100000 in
theorem r_X12_moment_b68 (t0 : Int32) (t1 : Nat) (t2 : Int32) (t3 : Int32) (h : Hp) {x : Cx} {r : Int32} {hz : Hp} (e : F_X12_moment_b68 t0 t1 t2 t3 h = some (r, hz)) (hF : Fin9 M_X12_moment x (some .int) (some (.int r)) hz) : V M_X12_moment x 5 68 [] [.int t3, .int t2, .ref t1, .int t0] h 0 0 := by
  unfold F_X12_moment_b68 at e
  obtain ⟨r16, g15, e⟩ := ob_some e
  obtain ⟨g17, e⟩ := gd_some e
  refine V_callV (pc := 68) (bc := 0) (bs := 0) (mc := 0) (ms := 0) (st := [.int t0]) (As := [.int t2, .int t3]) (a := t1) (h' := h) (r := some (.int r16)) dX12_moment_68 ml_X12_274 (ci := 11) rfl (of_decide_eq_true g17) rfl rfl (Nat.le_of_ble_eq_true rfl) (d' := 1) (by decide) (c_X12_trunksBy (l := x.2.1) t1 t2 t3 h g15) ?_
  exact V_pick [] rfl (r_X12_moment_b71 t0 r16 h e hF)
set_option maxRecDepth 100000 in
def F_X12_moment_b42 (v0 : Nat) (v2 : Int32) (t0 : Int32) (h : Hp) : Option (Int32 × Hp) :=
  ob (F_X12_net v0 t0 h) fun r13 => gd (decide (kd h v0 = 11)) <| (if v2 = 0 then F_X12_moment_b71 r13 (0 : Int32) h else (if v2 = (2 : Int32) then F_X12_moment_b68 r13 v0 t0 (1 : Int32) h else F_X12_moment_b68 r13 v0 t0 (0 : Int32) h))
set_option maxHeartbeats 4000000 in
set_option maxRecDepth 100000 in
theorem r_X12_moment_b42 (v0 : Nat) (v2 : Int32) (t0 : Int32) (h : Hp) {x : Cx} {r : Int32} {hz : Hp} (e : F_X12_moment_b42 v0 v2 t0 h = some (r, hz)) (hF : Fin9 M_X12_moment x (some .int) (some (.int r)) hz) : V M_X12_moment x 5 42 [(0, .ref v0), (2, .int v2)] [.int t0] h 0 0 := by
  unfold F_X12_moment_b42 at e
  refine V_istore_n (pc := 42) (i := 3) (lv' := [(3, .int t0), (0, .ref v0), (2, .int v2)]) dX12_moment_42 rfl (by decide) rfl ?_
  refine V_aload_n (pc := 43) (i := 0) dX12_moment_43 rfl rfl ?_
  refine V_iload_n (pc := 44) (i := 3) dX12_moment_44 rfl rfl ?_
  obtain ⟨r13, g12, e⟩ := ob_some e
  obtain ⟨g14, e⟩ := gd_some e
  refine V_callV (pc := 45) (bc := 0) (bs := 0) (mc := 0) (ms := 0) (st := []) (As := [.int t0]) (a := v0) (h' := h) (r := some (.int r13)) dX12_moment_45 ml_X12_278 (ci := 11) rfl (of_decide_eq_true g14) rfl rfl (Nat.le_of_ble_eq_true rfl) (d' := 4) (by decide) (c_X12_net (l := x.2.1) v0 t0 h g12) ?_
  refine V_iload_n (pc := 48) (i := 2) dX12_moment_48 rfl rfl ?_
  refine V_if_ne (pc := 49) (tgt := 56) dX12_moment_49 (by decide) (fun c19 => ?_) (fun c19 => ?_)
  · rw [if_neg c19] at e
    refine V_pick [1, 2, 0] rfl ?_
    refine V_aload_n (pc := 56) (i := 0) dX12_moment_56 rfl rfl ?_
    refine V_iload_n (pc := 57) (i := 3) dX12_moment_57 rfl rfl ?_
    refine V_iload_n (pc := 58) (i := 2) dX12_moment_58 rfl rfl ?_
    refine V_iconst (pc := 59) (v := (2 : Int32)) dX12_moment_59 (by decide) ?_
    refine V_icmp_ne (pc := 60) (tgt := 67) dX12_moment_60 (by decide) (fun c18 => ?_) (fun c18 => ?_)
    · rw [if_neg c18] at e
      refine V_pick [] rfl ?_
      refine V_iconst (pc := 67) (v := (0 : Int32)) dX12_moment_67 (by decide) ?_
      exact V_pick [] rfl (r_X12_moment_b68 r13 v0 t0 (0 : Int32) h e hF)
    · rw [if_pos c18] at e
      refine V_pick [] rfl ?_
      refine V_iconst (pc := 63) (v := (1 : Int32)) dX12_moment_63 (by decide) ?_
      refine V_goto (pc := 64) (tgt := 68) dX12_moment_64 (by decide) ?_
      exact V_pick [] rfl (r_X12_moment_b68 r13 v0 t0 (1 : Int32) h e hF)
  · rw [if_pos c19] at e
    refine V_pick [] rfl ?_
    refine V_iconst (pc := 52) (v := (0 : Int32)) dX12_moment_52 (by decide) ?_
    refine V_goto (pc := 53) (tgt := 71) dX12_moment_53 (by decide) ?_
    exact V_pick [] rfl (r_X12_moment_b71 r13 (0 : Int32) h e hF)
set_option maxRecDepth 100000 in
def F_X12_moment_b20 (v0 : Nat) (v1 : Int32) (v2 : Int32) (t0 : Nat) (t1 : Int32) (h : Hp) : Option (Int32 × Hp) :=
  ob2 (F_X12_throwsIf t0 t1 (1 : Int32) h) fun r5 h6 => gd (decide (kd h t0 = 11)) <| (if r5 = 0 then ob2 (F_X12_sits v0 h6) fun _ h10 => gd (decide (kd h6 v0 = 11)) <| (if v1 = 0 then F_X12_moment_b42 v0 v2 (0 : Int32) h10 else F_X12_moment_b42 v0 v2 (1 : Int32) h10) else some ((0 : Int32), h6))
set_option maxHeartbeats 4000000 in
set_option maxRecDepth 100000 in
theorem r_X12_moment_b20 (v0 : Nat) (v1 : Int32) (v2 : Int32) (t0 : Nat) (t1 : Int32) (h : Hp) {x : Cx} {r : Int32} {hz : Hp} (e : F_X12_moment_b20 v0 v1 v2 t0 t1 h = some (r, hz)) (hF : Fin9 M_X12_moment x (some .int) (some (.int r)) hz) : V M_X12_moment x 5 20 [(0, .ref v0), (1, .int v1), (2, .int v2)] [.int t1, .ref t0] h 0 0 := by
  unfold F_X12_moment_b20 at e
  refine V_iconst (pc := 20) (v := (1 : Int32)) dX12_moment_20 (by decide) ?_
  obtain ⟨r5, h6, g4, e⟩ := ob2_some e
  obtain ⟨g7, e⟩ := gd_some e
  refine V_callV (pc := 21) (bc := 0) (bs := 0) (mc := 0) (ms := 0) (st := []) (As := [.int t1, .int (1 : Int32)]) (a := t0) (h' := h6) (r := some (.int r5)) dX12_moment_21 ml_X12_240 (ci := 11) rfl (of_decide_eq_true g7) rfl rfl (Nat.le_of_ble_eq_true rfl) (d' := 0) (by decide) (c_X12_throwsIf (l := x.2.1) t0 t1 (1 : Int32) h g4) ?_
  refine V_if_eq (pc := 24) (tgt := 29) dX12_moment_24 (by decide) (fun c21 => ?_) (fun c21 => ?_)
  · rw [if_pos c21] at e
    refine V_pick [0, 1, 2] rfl ?_
    refine V_aload_n (pc := 29) (i := 0) dX12_moment_29 rfl rfl ?_
    obtain ⟨r9, h10, g8, e⟩ := ob2_some e
    obtain ⟨g11, e⟩ := gd_some e
    refine V_callV (pc := 30) (bc := 0) (bs := 0) (mc := 0) (ms := 0) (st := []) (As := []) (a := v0) (h' := h10) (r := none) dX12_moment_30 ml_X12_290 (ci := 11) rfl (of_decide_eq_true g11) rfl rfl (Nat.le_of_ble_eq_true rfl) (d' := 1) (by decide) (c_X12_sits (l := x.2.1) v0 h6 g8) ?_
    refine V_iload_n (pc := 33) (i := 1) dX12_moment_33 rfl rfl ?_
    refine V_if_eq (pc := 34) (tgt := 41) dX12_moment_34 (by decide) (fun c20 => ?_) (fun c20 => ?_)
    · rw [if_pos c20] at e
      refine V_pick [0, 2] rfl ?_
      refine V_iconst (pc := 41) (v := (0 : Int32)) dX12_moment_41 (by decide) ?_
      exact V_pick [0, 1] rfl (r_X12_moment_b42 v0 v2 (0 : Int32) h10 e hF)
    · rw [if_neg c20] at e
      refine V_pick [0, 2] rfl ?_
      refine V_iconst (pc := 37) (v := (1 : Int32)) dX12_moment_37 (by decide) ?_
      refine V_goto (pc := 38) (tgt := 42) dX12_moment_38 (by decide) ?_
      exact V_pick [0, 1] rfl (r_X12_moment_b42 v0 v2 (1 : Int32) h10 e hF)
  · rw [if_neg c21] at e
    refine V_pick [] rfl ?_
    refine V_iconst (pc := 27) (v := (0 : Int32)) dX12_moment_27 (by decide) ?_
    cases e
    exact V_iret (pc := 28) dX12_moment_28 hF
set_option maxRecDepth 100000 in
def F_X12_moment_b0 (v0 : Nat) (v1 : Int32) (v2 : Int32) (h : Hp) : Option (Int32 × Hp) :=
  gd (decide (kd h v0 = 11)) <| ob (F_X12_in v2 (0 : Int32) (2 : Int32) (setI h v0 0 (0 : Int32))) fun r3 => (if r3 = 0 then F_X12_moment_b20 v0 v1 v2 v0 (1 : Int32) (setI h v0 0 (0 : Int32)) else F_X12_moment_b20 v0 v1 v2 v0 (0 : Int32) (setI h v0 0 (0 : Int32)))
set_option maxHeartbeats 4000000 in
set_option maxRecDepth 100000 in
theorem r_X12_moment_b0 (v0 : Nat) (v1 : Int32) (v2 : Int32) (h : Hp) {x : Cx} {r : Int32} {hz : Hp} (e : F_X12_moment_b0 v0 v1 v2 h = some (r, hz)) (hF : Fin9 M_X12_moment x (some .int) (some (.int r)) hz) : V M_X12_moment x 5 0 [(0, .ref v0), (1, .int v1), (2, .int v2)] [] h 0 0 := by
  unfold F_X12_moment_b0 at e
  refine V_aload_n (pc := 0) (i := 0) dX12_moment_0 rfl rfl ?_
  refine V_iconst (pc := 1) (v := (0 : Int32)) dX12_moment_1 (by decide) ?_
  obtain ⟨g1, e⟩ := gd_some e
  refine V_putI (pc := 2) (ci := 11) (k := 0) dX12_moment_2 fp_X12_3 rfl (of_decide_eq_true g1) ?_
  refine V_aload_n (pc := 5) (i := 0) dX12_moment_5 rfl rfl ?_
  refine V_iload_n (pc := 6) (i := 2) dX12_moment_6 rfl rfl ?_
  refine V_iconst (pc := 7) (v := (0 : Int32)) dX12_moment_7 (by decide) ?_
  refine V_iconst (pc := 8) (v := (2 : Int32)) dX12_moment_8 (by decide) ?_
  obtain ⟨r3, g2, e⟩ := ob_some e
  refine V_callS (pc := 9) (bc := 0) (bs := 0) (mc := 0) (ms := 0) (st := [.ref v0]) (As := [.int v2, .int (0 : Int32), .int (2 : Int32)]) (h' := (setI h v0 0 (0 : Int32))) (r := some (.int r3)) dX12_moment_9 ml_X12_64 rfl rfl (Nat.le_of_ble_eq_true rfl) (d' := 0) (by decide) (c_X12_in (l := x.2.1) v2 (0 : Int32) (2 : Int32) (setI h v0 0 (0 : Int32)) g2) ?_
  refine V_if_ne (pc := 12) (tgt := 19) dX12_moment_12 (by decide) (fun c22 => ?_) (fun c22 => ?_)
  · rw [if_neg c22] at e
    refine V_pick [0, 1, 2] rfl ?_
    refine V_iconst (pc := 19) (v := (0 : Int32)) dX12_moment_19 (by decide) ?_
    exact V_pick [0, 1, 2] rfl (r_X12_moment_b20 v0 v1 v2 v0 (0 : Int32) (setI h v0 0 (0 : Int32)) e hF)
  · rw [if_pos c22] at e
    refine V_pick [0, 1, 2] rfl ?_
    refine V_iconst (pc := 15) (v := (1 : Int32)) dX12_moment_15 (by decide) ?_
    refine V_goto (pc := 16) (tgt := 20) dX12_moment_16 (by decide) ?_
    exact V_pick [0, 1, 2] rfl (r_X12_moment_b20 v0 v1 v2 v0 (1 : Int32) (setI h v0 0 (0 : Int32)) e hF)
def F_X12_moment (v0 : Nat) (v1 : Int32) (v2 : Int32) (h : Hp) : Option (Int32 × Hp) := F_X12_moment_b0 v0 v1 v2 h
theorem c_X12_moment {l : Launch} (v0 : Nat) (v1 : Int32) (v2 : Int32) (h : Hp) {r : Int32} {hz : Hp} (e : F_X12_moment v0 v1 v2 h = some (r, hz)) : Ct l yX12_moment M_X12_moment (some .int) 5 [.ref v0, .int v1, .int v2] h 0 0 (some (.int r)) hz :=
  Ct_of rfl rfl (fun q => by cases q) (Nat.le_of_ble_eq_true rfl) (fun x _ hF => V_pick [0, 1, 2] rfl (r_X12_moment_b0 v0 v1 v2 h e hF))
theorem dX12_level_0 : decode cX12_level 0 = .ok (.aload_n 0, 1) := by decide +kernel
theorem dX12_level_1 : decode cX12_level 1 = .ok (.iconst 0, 1) := by decide +kernel
theorem dX12_level_2 : decode cX12_level 2 = .ok (.putfield 3, 3) := by decide +kernel
theorem dX12_level_5 : decode cX12_level 5 = .ok (.aload_n 0, 1) := by decide +kernel
theorem dX12_level_6 : decode cX12_level 6 = .ok (.invokevirtual 290, 3) := by decide +kernel
theorem dX12_level_9 : decode cX12_level 9 = .ok (.aload_n 0, 1) := by decide +kernel
theorem dX12_level_10 : decode cX12_level 10 = .ok (.invokevirtual 293, 3) := by decide +kernel
theorem dX12_level_13 : decode cX12_level 13 = .ok (.ireturn, 1) := by decide +kernel
set_option maxRecDepth 100000 in
def F_X12_level_b0 (v0 : Nat) (h : Hp) : Option (Int32 × Hp) :=
  gd (decide (kd h v0 = 11)) <| ob2 (F_X12_sits v0 (setI h v0 0 (0 : Int32))) fun _ h4 => ob (F_X12_isLevel v0 h4) fun r6 => gd (decide (kd h4 v0 = 11)) <| gd (decide (r6 = 0 ∨ r6 = 1)) <| some (r6, h4)
set_option maxHeartbeats 4000000 in
set_option maxRecDepth 100000 in
theorem r_X12_level_b0 (v0 : Nat) (h : Hp) {x : Cx} {r : Int32} {hz : Hp} (e : F_X12_level_b0 v0 h = some (r, hz)) (hF : Fin9 M_X12_level x (some .boolean) (some (.int r)) hz) : V M_X12_level x 6 0 [(0, .ref v0)] [] h 0 0 := by
  unfold F_X12_level_b0 at e
  refine V_aload_n (pc := 0) (i := 0) dX12_level_0 rfl rfl ?_
  refine V_iconst (pc := 1) (v := (0 : Int32)) dX12_level_1 (by decide) ?_
  obtain ⟨g1, e⟩ := gd_some e
  refine V_putI (pc := 2) (ci := 11) (k := 0) dX12_level_2 fp_X12_3 rfl (of_decide_eq_true g1) ?_
  refine V_aload_n (pc := 5) (i := 0) dX12_level_5 rfl rfl ?_
  obtain ⟨r3, h4, g2, e⟩ := ob2_some e
  refine V_callV (pc := 6) (bc := 0) (bs := 0) (mc := 0) (ms := 0) (st := []) (As := []) (a := v0) (h' := h4) (r := none) dX12_level_6 ml_X12_290 (ci := 11) rfl (kd_sI (of_decide_eq_true g1)) rfl rfl (Nat.le_of_ble_eq_true rfl) (d' := 1) (by decide) (c_X12_sits (l := x.2.1) v0 (setI h v0 0 (0 : Int32)) g2) ?_
  refine V_aload_n (pc := 9) (i := 0) dX12_level_9 rfl rfl ?_
  obtain ⟨r6, g5, e⟩ := ob_some e
  obtain ⟨g7, e⟩ := gd_some e
  refine V_callV (pc := 10) (bc := 0) (bs := 0) (mc := 0) (ms := 0) (st := []) (As := []) (a := v0) (h' := h4) (r := some (.int r6)) dX12_level_10 ml_X12_293 (ci := 11) rfl (of_decide_eq_true g7) rfl rfl (Nat.le_of_ble_eq_true rfl) (d' := 5) (by decide) (c_X12_isLevel (l := x.2.1) v0 h4 g5) ?_
  obtain ⟨g8, e⟩ := gd_some e
  cases e
  exact V_zret (pc := 13) dX12_level_13 (z01 (of_decide_eq_true g8)) hF
def F_X12_level (v0 : Nat) (h : Hp) : Option (Int32 × Hp) := F_X12_level_b0 v0 h
theorem c_X12_level {l : Launch} (v0 : Nat) (h : Hp) {r : Int32} {hz : Hp} (e : F_X12_level v0 h = some (r, hz)) : Ct l yX12_level M_X12_level (some .boolean) 6 [.ref v0] h 0 0 (some (.int r)) hz :=
  Ct_of rfl rfl (fun q => by cases q) (Nat.le_of_ble_eq_true rfl) (fun x _ hF => V_pick [0] rfl (r_X12_level_b0 v0 h e hF))
theorem dX12_told_0 : decode cX12_told 0 = .ok (.iconst 0, 1) := by decide +kernel
theorem dX12_told_1 : decode cX12_told 1 = .ok (.istore_n 1, 1) := by decide +kernel
theorem dX12_told_2 : decode cX12_told 2 = .ok (.aload_n 0, 1) := by decide +kernel
theorem dX12_told_3 : decode cX12_told 3 = .ok (.invokevirtual 68, 3) := by decide +kernel
theorem dX12_told_6 : decode cX12_told 6 = .ok (.iconst 1, 1) := by decide +kernel
theorem dX12_told_7 : decode cX12_told 7 = .ok (.isub, 1) := by decide +kernel
theorem dX12_told_8 : decode cX12_told 8 = .ok (.istore_n 2, 1) := by decide +kernel
theorem dX12_told_9 : decode cX12_told 9 = .ok (.iload_n 2, 1) := by decide +kernel
theorem dX12_told_10 : decode cX12_told 10 = .ok (.ifCond .lt 21, 3) := by decide +kernel
theorem dX12_told_13 : decode cX12_told 13 = .ok (.bipush 8, 2) := by decide +kernel
theorem dX12_told_15 : decode cX12_told 15 = .ok (.iload_n 1, 1) := by decide +kernel
theorem dX12_told_16 : decode cX12_told 16 = .ok (.imul, 1) := by decide +kernel
theorem dX12_told_17 : decode cX12_told 17 = .ok (.aload_n 0, 1) := by decide +kernel
theorem dX12_told_18 : decode cX12_told 18 = .ok (.getfield 36, 3) := by decide +kernel
theorem dX12_told_21 : decode cX12_told 21 = .ok (.iload_n 2, 1) := by decide +kernel
theorem dX12_told_22 : decode cX12_told 22 = .ok (.iaload, 1) := by decide +kernel
theorem dX12_told_23 : decode cX12_told 23 = .ok (.iadd, 1) := by decide +kernel
theorem dX12_told_24 : decode cX12_told 24 = .ok (.istore_n 1, 1) := by decide +kernel
theorem dX12_told_25 : decode cX12_told 25 = .ok (.iinc 2 (-1), 3) := by decide +kernel
theorem dX12_told_28 : decode cX12_told 28 = .ok (.goto (-19), 3) := by decide +kernel
theorem dX12_told_31 : decode cX12_told 31 = .ok (.iload_n 1, 1) := by decide +kernel
theorem dX12_told_32 : decode cX12_told 32 = .ok (.ireturn, 1) := by decide +kernel
set_option maxRecDepth 100000 in
def F_X12_told_l9 (v0 : Nat) (v1 : Int32) (v2 : Int32) (h : Hp) : Option ((Int32 × Int32) ⊕ Int32) :=
  (if v2 < 0 then some (.inr v1) else gd (decide (kd h v0 = 11)) <| ob (zR h v0 15) fun q5 => gd (decide (kd h q5 = 13)) <| gd (ix v2 (zl h q5)) <| some (.inl (((8 : Int32) * v1) + (zI h q5 (v2).toNatClampNeg), v2 + (-1 : Int32))))
set_option maxHeartbeats 4000000 in
set_option maxRecDepth 100000 in
theorem r_X12_told_l9 (v0 : Nat) (v1 : Int32) (v2 : Int32) (h : Hp) {x : Cx} {o : ((Int32 × Int32) ⊕ Int32)} (e : F_X12_told_l9 v0 v1 v2 h = some o) (kI : ∀ z, o = .inl z → V M_X12_told x 1 9 [(0, .ref v0), (1, .int z.1), (2, .int z.2)] [] h 0 0) (kE31 : ∀ z : Int32, o = .inr z → V M_X12_told x 1 31 [(1, .int z)] [] h 0 0) : V M_X12_told x 1 9 [(0, .ref v0), (1, .int v1), (2, .int v2)] [] h 0 0 := by
  unfold F_X12_told_l9 at e
  refine V_iload_n (pc := 9) (i := 2) dX12_told_9 rfl rfl ?_
  refine V_if_lt (pc := 10) (tgt := 31) dX12_told_10 (by decide) (fun c9 => ?_) (fun c9 => ?_)
  · rw [if_pos c9] at e
    cases e
    exact V_pick [1] rfl (kE31 v1 rfl)
  · rw [if_neg c9] at e
    refine V_pick [0, 1, 2] rfl ?_
    refine V_bipush (pc := 13) (v := (8 : Int32)) dX12_told_13 (by decide) ?_
    refine V_iload_n (pc := 15) (i := 1) dX12_told_15 rfl rfl ?_
    refine V_imul (pc := 16) dX12_told_16 ?_
    refine V_aload_n (pc := 17) (i := 0) dX12_told_17 rfl rfl ?_
    obtain ⟨g4, e⟩ := gd_some e
    obtain ⟨q5, g6, e⟩ := ob_some e
    refine V_getR (pc := 18) (ci := 11) (k := 15) (b := q5) dX12_told_18 fl_X12_36 rfl (of_decide_eq_true g4) g6 ?_
    refine V_iload_n (pc := 21) (i := 2) dX12_told_21 rfl rfl ?_
    obtain ⟨g7, e⟩ := gd_some e
    obtain ⟨g8, e⟩ := gd_some e
    refine V_iald (pc := 22) dX12_told_22 (of_decide_eq_true g7) (ix_in g8) ?_
    refine V_iadd (pc := 23) dX12_told_23 ?_
    refine V_istore_n (pc := 24) (i := 1) (lv' := [(1, .int (((8 : Int32) * v1) + (zI h q5 (v2).toNatClampNeg))), (0, .ref v0), (2, .int v2)]) dX12_told_24 rfl (by decide) rfl ?_
    refine V_iinc (pc := 25) (i := 2) (u := v2 + (-1 : Int32)) (lv' := [(2, .int (v2 + (-1 : Int32))), (1, .int (((8 : Int32) * v1) + (zI h q5 (v2).toNatClampNeg))), (0, .ref v0)]) dX12_told_25 rfl rfl (by decide) rfl ?_
    refine V_goto (pc := 28) (tgt := 9) dX12_told_28 (by decide) ?_
    cases e
    exact V_pick [2, 1, 0] rfl (kI (((8 : Int32) * v1) + (zI h q5 (v2).toNatClampNeg), v2 + (-1 : Int32)) rfl)
set_option maxRecDepth 100000 in
def F_X12_told_b0 (v0 : Nat) (h : Hp) : Option Int32 :=
  ob (F_X12_guests v0 h) fun r2 => gd (decide (kd h v0 = 11)) <| ob (iter (fun z : Int32 × Int32 => F_X12_told_l9 v0 z.1 z.2 h) FU ((0 : Int32), r2 - (1 : Int32))) (fun w10 => some w10)
set_option maxHeartbeats 4000000 in
set_option maxRecDepth 100000 in
theorem r_X12_told_b0 (v0 : Nat) (h : Hp) {x : Cx} {r : Int32} (e : F_X12_told_b0 v0 h = some r) (hF : Fin9 M_X12_told x (some .int) (some (.int r)) h) : V M_X12_told x 1 0 [(0, .ref v0)] [] h 0 0 := by
  unfold F_X12_told_b0 at e
  refine V_iconst (pc := 0) (v := (0 : Int32)) dX12_told_0 (by decide) ?_
  refine V_istore_n (pc := 1) (i := 1) (lv' := [(1, .int (0 : Int32)), (0, .ref v0)]) dX12_told_1 rfl (by decide) rfl ?_
  refine V_aload_n (pc := 2) (i := 0) dX12_told_2 rfl rfl ?_
  obtain ⟨r2, g1, e⟩ := ob_some e
  obtain ⟨g3, e⟩ := gd_some e
  refine V_callV (pc := 3) (bc := 0) (bs := 0) (mc := 0) (ms := 0) (st := []) (As := []) (a := v0) (h' := h) (r := some (.int r2)) dX12_told_3 ml_X12_68 (ci := 11) rfl (of_decide_eq_true g3) rfl rfl (Nat.le_of_ble_eq_true rfl) (d' := 0) (by decide) (c_X12_guests (l := x.2.1) v0 h g1) ?_
  refine V_iconst (pc := 6) (v := (1 : Int32)) dX12_told_6 (by decide) ?_
  refine V_isub (pc := 7) dX12_told_7 ?_
  refine V_istore_n (pc := 8) (i := 2) (lv' := [(2, .int (r2 - (1 : Int32))), (1, .int (0 : Int32)), (0, .ref v0)]) dX12_told_8 rfl (by decide) rfl ?_
  refine V_pick [2, 1, 0] rfl ?_
  obtain ⟨y11, g12, e⟩ := ob_some e
  refine iter_V (P := fun z : Int32 × Int32 => V M_X12_told x 1 9 [(0, .ref v0), (1, .int z.1), (2, .int z.2)] [] h 0 0) (E := fun z : Int32 => V M_X12_told x 1 31 [(1, .int z)] [] h 0 0) (fun z o e9 k1 k2 => r_X12_told_l9 v0 z.1 z.2 h e9 (fun z hz9 => k1 z hz9) (fun z hz9 => k2 _ hz9)) _ _ _ g12 ?_
  clear g12
  obtain ⟨w10, rfl⟩ : ∃ q, q = y11 := ⟨_, rfl⟩
  replace e : (some w10) = some r := e
  show V M_X12_told x 1 31 [(1, .int w10)] [] h 0 0
  refine V_iload_n (pc := 31) (i := 1) dX12_told_31 rfl rfl ?_
  cases e
  exact V_iret (pc := 32) dX12_told_32 hF
def F_X12_told (v0 : Nat) (h : Hp) : Option Int32 := F_X12_told_b0 v0 h
theorem c_X12_told {l : Launch} (v0 : Nat) (h : Hp) {r : Int32} (e : F_X12_told v0 h = some r) : Ct l yX12_told M_X12_told (some .int) 1 [.ref v0] h 0 0 (some (.int r)) h :=
  Ct_of rfl rfl (fun q => by cases q) (Nat.le_of_ble_eq_true rfl) (fun x _ hF => V_pick [0] rfl (r_X12_told_b0 v0 h e hF))
theorem dX12_seating_0 : decode cX12_seating 0 = .ok (.aload_n 0, 1) := by decide +kernel
theorem dX12_seating_1 : decode cX12_seating 1 = .ok (.iconst 0, 1) := by decide +kernel
theorem dX12_seating_2 : decode cX12_seating 2 = .ok (.putfield 3, 3) := by decide +kernel
theorem dX12_seating_5 : decode cX12_seating 5 = .ok (.aload_n 0, 1) := by decide +kernel
theorem dX12_seating_6 : decode cX12_seating 6 = .ok (.invokevirtual 290, 3) := by decide +kernel
theorem dX12_seating_9 : decode cX12_seating 9 = .ok (.aload_n 0, 1) := by decide +kernel
theorem dX12_seating_10 : decode cX12_seating 10 = .ok (.invokevirtual 296, 3) := by decide +kernel
theorem dX12_seating_13 : decode cX12_seating 13 = .ok (.ireturn, 1) := by decide +kernel
set_option maxRecDepth 100000 in
def F_X12_seating_b0 (v0 : Nat) (h : Hp) : Option (Int32 × Hp) :=
  gd (decide (kd h v0 = 11)) <| ob2 (F_X12_sits v0 (setI h v0 0 (0 : Int32))) fun _ h4 => ob (F_X12_told v0 h4) fun r6 => gd (decide (kd h4 v0 = 11)) <| some (r6, h4)
set_option maxHeartbeats 4000000 in
set_option maxRecDepth 100000 in
theorem r_X12_seating_b0 (v0 : Nat) (h : Hp) {x : Cx} {r : Int32} {hz : Hp} (e : F_X12_seating_b0 v0 h = some (r, hz)) (hF : Fin9 M_X12_seating x (some .int) (some (.int r)) hz) : V M_X12_seating x 2 0 [(0, .ref v0)] [] h 0 0 := by
  unfold F_X12_seating_b0 at e
  refine V_aload_n (pc := 0) (i := 0) dX12_seating_0 rfl rfl ?_
  refine V_iconst (pc := 1) (v := (0 : Int32)) dX12_seating_1 (by decide) ?_
  obtain ⟨g1, e⟩ := gd_some e
  refine V_putI (pc := 2) (ci := 11) (k := 0) dX12_seating_2 fp_X12_3 rfl (of_decide_eq_true g1) ?_
  refine V_aload_n (pc := 5) (i := 0) dX12_seating_5 rfl rfl ?_
  obtain ⟨r3, h4, g2, e⟩ := ob2_some e
  refine V_callV (pc := 6) (bc := 0) (bs := 0) (mc := 0) (ms := 0) (st := []) (As := []) (a := v0) (h' := h4) (r := none) dX12_seating_6 ml_X12_290 (ci := 11) rfl (kd_sI (of_decide_eq_true g1)) rfl rfl (Nat.le_of_ble_eq_true rfl) (d' := 1) (by decide) (c_X12_sits (l := x.2.1) v0 (setI h v0 0 (0 : Int32)) g2) ?_
  refine V_aload_n (pc := 9) (i := 0) dX12_seating_9 rfl rfl ?_
  obtain ⟨r6, g5, e⟩ := ob_some e
  obtain ⟨g7, e⟩ := gd_some e
  refine V_callV (pc := 10) (bc := 0) (bs := 0) (mc := 0) (ms := 0) (st := []) (As := []) (a := v0) (h' := h4) (r := some (.int r6)) dX12_seating_10 ml_X12_296 (ci := 11) rfl (of_decide_eq_true g7) rfl rfl (Nat.le_of_ble_eq_true rfl) (d' := 1) (by decide) (c_X12_told (l := x.2.1) v0 h4 g5) ?_
  cases e
  exact V_iret (pc := 13) dX12_seating_13 hF
def F_X12_seating (v0 : Nat) (h : Hp) : Option (Int32 × Hp) := F_X12_seating_b0 v0 h
theorem c_X12_seating {l : Launch} (v0 : Nat) (h : Hp) {r : Int32} {hz : Hp} (e : F_X12_seating v0 h = some (r, hz)) : Ct l yX12_seating M_X12_seating (some .int) 2 [.ref v0] h 0 0 (some (.int r)) hz :=
  Ct_of rfl rfl (fun q => by cases q) (Nat.le_of_ble_eq_true rfl) (fun x _ hF => V_pick [0] rfl (r_X12_seating_b0 v0 h e hF))
theorem dX12_headsIn_0 : decode cX12_headsIn 0 = .ok (.iconst 0, 1) := by decide +kernel
theorem dX12_headsIn_1 : decode cX12_headsIn 1 = .ok (.istore_n 2, 1) := by decide +kernel
theorem dX12_headsIn_2 : decode cX12_headsIn 2 = .ok (.iconst 0, 1) := by decide +kernel
theorem dX12_headsIn_3 : decode cX12_headsIn 3 = .ok (.istore_n 3, 1) := by decide +kernel
theorem dX12_headsIn_4 : decode cX12_headsIn 4 = .ok (.iload_n 3, 1) := by decide +kernel
theorem dX12_headsIn_5 : decode cX12_headsIn 5 = .ok (.aload_n 0, 1) := by decide +kernel
theorem dX12_headsIn_6 : decode cX12_headsIn 6 = .ok (.invokevirtual 68, 3) := by decide +kernel
theorem dX12_headsIn_9 : decode cX12_headsIn 9 = .ok (.if_icmp .ge 27, 3) := by decide +kernel
theorem dX12_headsIn_12 : decode cX12_headsIn 12 = .ok (.iload_n 2, 1) := by decide +kernel
theorem dX12_headsIn_13 : decode cX12_headsIn 13 = .ok (.aload_n 0, 1) := by decide +kernel
theorem dX12_headsIn_14 : decode cX12_headsIn 14 = .ok (.getfield 36, 3) := by decide +kernel
theorem dX12_headsIn_17 : decode cX12_headsIn 17 = .ok (.iload_n 3, 1) := by decide +kernel
theorem dX12_headsIn_18 : decode cX12_headsIn 18 = .ok (.iaload, 1) := by decide +kernel
theorem dX12_headsIn_19 : decode cX12_headsIn 19 = .ok (.iload_n 1, 1) := by decide +kernel
theorem dX12_headsIn_20 : decode cX12_headsIn 20 = .ok (.if_icmp .ne 7, 3) := by decide +kernel
theorem dX12_headsIn_23 : decode cX12_headsIn 23 = .ok (.iconst 1, 1) := by decide +kernel
theorem dX12_headsIn_24 : decode cX12_headsIn 24 = .ok (.goto 4, 3) := by decide +kernel
theorem dX12_headsIn_27 : decode cX12_headsIn 27 = .ok (.iconst 0, 1) := by decide +kernel
theorem dX12_headsIn_28 : decode cX12_headsIn 28 = .ok (.iadd, 1) := by decide +kernel
theorem dX12_headsIn_29 : decode cX12_headsIn 29 = .ok (.istore_n 2, 1) := by decide +kernel
theorem dX12_headsIn_30 : decode cX12_headsIn 30 = .ok (.iinc 3 1, 3) := by decide +kernel
theorem dX12_headsIn_33 : decode cX12_headsIn 33 = .ok (.goto (-29), 3) := by decide +kernel
theorem dX12_headsIn_36 : decode cX12_headsIn 36 = .ok (.iload_n 2, 1) := by decide +kernel
theorem dX12_headsIn_37 : decode cX12_headsIn 37 = .ok (.ireturn, 1) := by decide +kernel
set_option maxRecDepth 100000 in
def F_X12_headsIn_b28 (v0 : Nat) (v1 : Int32) (v3 : Int32) (t0 : Int32) (t1 : Int32) (h : Hp) : Option ((Int32 × Int32) ⊕ Int32) :=
  some (.inl (t0 + t1, v3 + (1 : Int32)))
set_option maxHeartbeats 4000000 in
set_option maxRecDepth 100000 in
theorem r_X12_headsIn_b28 (v0 : Nat) (v1 : Int32) (v3 : Int32) (t0 : Int32) (t1 : Int32) (h : Hp) {x : Cx} {o : ((Int32 × Int32) ⊕ Int32)} (e : F_X12_headsIn_b28 v0 v1 v3 t0 t1 h = some o) (kI : ∀ z, o = .inl z → V M_X12_headsIn x 1 4 [(0, .ref v0), (1, .int v1), (2, .int z.1), (3, .int z.2)] [] h 0 0) (kE36 : ∀ z : Int32, o = .inr z → V M_X12_headsIn x 1 36 [(2, .int z)] [] h 0 0) : V M_X12_headsIn x 1 28 [(0, .ref v0), (1, .int v1), (3, .int v3)] [.int t1, .int t0] h 0 0 := by
  unfold F_X12_headsIn_b28 at e
  refine V_iadd (pc := 28) dX12_headsIn_28 ?_
  refine V_istore_n (pc := 29) (i := 2) (lv' := [(2, .int (t0 + t1)), (0, .ref v0), (1, .int v1), (3, .int v3)]) dX12_headsIn_29 rfl (by decide) rfl ?_
  refine V_iinc (pc := 30) (i := 3) (u := v3 + (1 : Int32)) (lv' := [(3, .int (v3 + (1 : Int32))), (2, .int (t0 + t1)), (0, .ref v0), (1, .int v1)]) dX12_headsIn_30 rfl rfl (by decide) rfl ?_
  refine V_goto (pc := 33) (tgt := 4) dX12_headsIn_33 (by decide) ?_
  cases e
  exact V_pick [2, 3, 1, 0] rfl (kI (t0 + t1, v3 + (1 : Int32)) rfl)
set_option maxRecDepth 100000 in
def F_X12_headsIn_l4 (v0 : Nat) (v1 : Int32) (v2 : Int32) (v3 : Int32) (h : Hp) : Option ((Int32 × Int32) ⊕ Int32) :=
  ob (F_X12_guests v0 h) fun r2 => gd (decide (kd h v0 = 11)) <| (if r2 ≤ v3 then some (.inr v2) else ob (zR h v0 15) fun q4 => gd (decide (kd h q4 = 13)) <| gd (ix v3 (zl h q4)) <| (if (zI h q4 (v3).toNatClampNeg) = v1 then F_X12_headsIn_b28 v0 v1 v3 v2 (1 : Int32) h else F_X12_headsIn_b28 v0 v1 v3 v2 (0 : Int32) h))
set_option maxHeartbeats 4000000 in
set_option maxRecDepth 100000 in
theorem r_X12_headsIn_l4 (v0 : Nat) (v1 : Int32) (v2 : Int32) (v3 : Int32) (h : Hp) {x : Cx} {o : ((Int32 × Int32) ⊕ Int32)} (e : F_X12_headsIn_l4 v0 v1 v2 v3 h = some o) (kI : ∀ z, o = .inl z → V M_X12_headsIn x 1 4 [(0, .ref v0), (1, .int v1), (2, .int z.1), (3, .int z.2)] [] h 0 0) (kE36 : ∀ z : Int32, o = .inr z → V M_X12_headsIn x 1 36 [(2, .int z)] [] h 0 0) : V M_X12_headsIn x 1 4 [(0, .ref v0), (1, .int v1), (2, .int v2), (3, .int v3)] [] h 0 0 := by
  unfold F_X12_headsIn_l4 at e
  refine V_iload_n (pc := 4) (i := 3) dX12_headsIn_4 rfl rfl ?_
  refine V_aload_n (pc := 5) (i := 0) dX12_headsIn_5 rfl rfl ?_
  obtain ⟨r2, g1, e⟩ := ob_some e
  obtain ⟨g3, e⟩ := gd_some e
  refine V_callV (pc := 6) (bc := 0) (bs := 0) (mc := 0) (ms := 0) (st := [.int v3]) (As := []) (a := v0) (h' := h) (r := some (.int r2)) dX12_headsIn_6 ml_X12_68 (ci := 11) rfl (of_decide_eq_true g3) rfl rfl (Nat.le_of_ble_eq_true rfl) (d' := 0) (by decide) (c_X12_guests (l := x.2.1) v0 h g1) ?_
  refine V_icmp_ge (pc := 9) (tgt := 36) dX12_headsIn_9 (by decide) (fun c9 => ?_) (fun c9 => ?_)
  · rw [if_pos c9] at e
    cases e
    exact V_pick [2] rfl (kE36 v2 rfl)
  · rw [if_neg c9] at e
    refine V_pick [0, 1, 2, 3] rfl ?_
    refine V_iload_n (pc := 12) (i := 2) dX12_headsIn_12 rfl rfl ?_
    refine V_aload_n (pc := 13) (i := 0) dX12_headsIn_13 rfl rfl ?_
    obtain ⟨q4, g5, e⟩ := ob_some e
    refine V_getR (pc := 14) (ci := 11) (k := 15) (b := q4) dX12_headsIn_14 fl_X12_36 rfl (of_decide_eq_true g3) g5 ?_
    refine V_iload_n (pc := 17) (i := 3) dX12_headsIn_17 rfl rfl ?_
    obtain ⟨g6, e⟩ := gd_some e
    obtain ⟨g7, e⟩ := gd_some e
    refine V_iald (pc := 18) dX12_headsIn_18 (of_decide_eq_true g6) (ix_in g7) ?_
    refine V_iload_n (pc := 19) (i := 1) dX12_headsIn_19 rfl rfl ?_
    refine V_icmp_ne (pc := 20) (tgt := 27) dX12_headsIn_20 (by decide) (fun c8 => ?_) (fun c8 => ?_)
    · rw [if_neg c8] at e
      refine V_pick [0, 1, 3] rfl ?_
      refine V_iconst (pc := 27) (v := (0 : Int32)) dX12_headsIn_27 (by decide) ?_
      exact V_pick [0, 1, 2] rfl (r_X12_headsIn_b28 v0 v1 v3 v2 (0 : Int32) h e kI kE36)
    · rw [if_pos c8] at e
      refine V_pick [0, 1, 3] rfl ?_
      refine V_iconst (pc := 23) (v := (1 : Int32)) dX12_headsIn_23 (by decide) ?_
      refine V_goto (pc := 24) (tgt := 28) dX12_headsIn_24 (by decide) ?_
      exact V_pick [0, 1, 2] rfl (r_X12_headsIn_b28 v0 v1 v3 v2 (1 : Int32) h e kI kE36)
set_option maxRecDepth 100000 in
def F_X12_headsIn_b0 (v0 : Nat) (v1 : Int32) (h : Hp) : Option Int32 :=
  ob (iter (fun z : Int32 × Int32 => F_X12_headsIn_l4 v0 v1 z.1 z.2 h) FU ((0 : Int32), (0 : Int32))) (fun w10 => some w10)
set_option maxHeartbeats 4000000 in
set_option maxRecDepth 100000 in
theorem r_X12_headsIn_b0 (v0 : Nat) (v1 : Int32) (h : Hp) {x : Cx} {r : Int32} (e : F_X12_headsIn_b0 v0 v1 h = some r) (hF : Fin9 M_X12_headsIn x (some .int) (some (.int r)) h) : V M_X12_headsIn x 1 0 [(0, .ref v0), (1, .int v1)] [] h 0 0 := by
  unfold F_X12_headsIn_b0 at e
  refine V_iconst (pc := 0) (v := (0 : Int32)) dX12_headsIn_0 (by decide) ?_
  refine V_istore_n (pc := 1) (i := 2) (lv' := [(2, .int (0 : Int32)), (0, .ref v0), (1, .int v1)]) dX12_headsIn_1 rfl (by decide) rfl ?_
  refine V_iconst (pc := 2) (v := (0 : Int32)) dX12_headsIn_2 (by decide) ?_
  refine V_istore_n (pc := 3) (i := 3) (lv' := [(3, .int (0 : Int32)), (2, .int (0 : Int32)), (0, .ref v0), (1, .int v1)]) dX12_headsIn_3 rfl (by decide) rfl ?_
  refine V_pick [2, 3, 1, 0] rfl ?_
  obtain ⟨y11, g12, e⟩ := ob_some e
  refine iter_V (P := fun z : Int32 × Int32 => V M_X12_headsIn x 1 4 [(0, .ref v0), (1, .int v1), (2, .int z.1), (3, .int z.2)] [] h 0 0) (E := fun z : Int32 => V M_X12_headsIn x 1 36 [(2, .int z)] [] h 0 0) (fun z o e9 k1 k2 => r_X12_headsIn_l4 v0 v1 z.1 z.2 h e9 (fun z hz9 => k1 z hz9) (fun z hz9 => k2 _ hz9)) _ _ _ g12 ?_
  clear g12
  obtain ⟨w10, rfl⟩ : ∃ q, q = y11 := ⟨_, rfl⟩
  replace e : (some w10) = some r := e
  show V M_X12_headsIn x 1 36 [(2, .int w10)] [] h 0 0
  refine V_iload_n (pc := 36) (i := 2) dX12_headsIn_36 rfl rfl ?_
  cases e
  exact V_iret (pc := 37) dX12_headsIn_37 hF
def F_X12_headsIn (v0 : Nat) (v1 : Int32) (h : Hp) : Option Int32 := F_X12_headsIn_b0 v0 v1 h
theorem c_X12_headsIn {l : Launch} (v0 : Nat) (v1 : Int32) (h : Hp) {r : Int32} (e : F_X12_headsIn v0 v1 h = some r) : Ct l yX12_headsIn M_X12_headsIn (some .int) 1 [.ref v0, .int v1] h 0 0 (some (.int r)) h :=
  Ct_of rfl rfl (fun q => by cases q) (Nat.le_of_ble_eq_true rfl) (fun x _ hF => V_pick [0, 1] rfl (r_X12_headsIn_b0 v0 v1 h e hF))
theorem dX12_factOf_0 : decode cX12_factOf 0 = .ok (.aload_n 0, 1) := by decide +kernel
theorem dX12_factOf_1 : decode cX12_factOf 1 = .ok (.getfield 36, 3) := by decide +kernel
theorem dX12_factOf_4 : decode cX12_factOf 4 = .ok (.iload_n 3, 1) := by decide +kernel
theorem dX12_factOf_5 : decode cX12_factOf 5 = .ok (.iaload, 1) := by decide +kernel
theorem dX12_factOf_6 : decode cX12_factOf 6 = .ok (.istore 4, 2) := by decide +kernel
theorem dX12_factOf_8 : decode cX12_factOf 8 = .ok (.iload_n 1, 1) := by decide +kernel
theorem dX12_factOf_9 : decode cX12_factOf 9 = .ok (.tableswitch 168 0 8 #[51, 62, 73, 91, 98, 106, 109, 125, 143], 51) := by decide +kernel
theorem dX12_factOf_60 : decode cX12_factOf 60 = .ok (.aload_n 0, 1) := by decide +kernel
theorem dX12_factOf_61 : decode cX12_factOf 61 = .ok (.iload 4, 2) := by decide +kernel
theorem dX12_factOf_63 : decode cX12_factOf 63 = .ok (.iconst 0, 1) := by decide +kernel
theorem dX12_factOf_64 : decode cX12_factOf 64 = .ok (.invokevirtual 131, 3) := by decide +kernel
theorem dX12_factOf_67 : decode cX12_factOf 67 = .ok (.bipush 9, 2) := by decide +kernel
theorem dX12_factOf_69 : decode cX12_factOf 69 = .ok (.iadd, 1) := by decide +kernel
theorem dX12_factOf_70 : decode cX12_factOf 70 = .ok (.ireturn, 1) := by decide +kernel
theorem dX12_factOf_71 : decode cX12_factOf 71 = .ok (.aload_n 0, 1) := by decide +kernel
theorem dX12_factOf_72 : decode cX12_factOf 72 = .ok (.iload 4, 2) := by decide +kernel
theorem dX12_factOf_74 : decode cX12_factOf 74 = .ok (.iconst 1, 1) := by decide +kernel
theorem dX12_factOf_75 : decode cX12_factOf 75 = .ok (.invokevirtual 131, 3) := by decide +kernel
theorem dX12_factOf_78 : decode cX12_factOf 78 = .ok (.bipush 9, 2) := by decide +kernel
theorem dX12_factOf_80 : decode cX12_factOf 80 = .ok (.iadd, 1) := by decide +kernel
theorem dX12_factOf_81 : decode cX12_factOf 81 = .ok (.ireturn, 1) := by decide +kernel
theorem dX12_factOf_82 : decode cX12_factOf 82 = .ok (.aload_n 0, 1) := by decide +kernel
theorem dX12_factOf_83 : decode cX12_factOf 83 = .ok (.iload 4, 2) := by decide +kernel
theorem dX12_factOf_85 : decode cX12_factOf 85 = .ok (.iconst 0, 1) := by decide +kernel
theorem dX12_factOf_86 : decode cX12_factOf 86 = .ok (.invokevirtual 131, 3) := by decide +kernel
theorem dX12_factOf_89 : decode cX12_factOf 89 = .ok (.aload_n 0, 1) := by decide +kernel
theorem dX12_factOf_90 : decode cX12_factOf 90 = .ok (.iload 4, 2) := by decide +kernel
theorem dX12_factOf_92 : decode cX12_factOf 92 = .ok (.iconst 1, 1) := by decide +kernel
theorem dX12_factOf_93 : decode cX12_factOf 93 = .ok (.invokevirtual 131, 3) := by decide +kernel
theorem dX12_factOf_96 : decode cX12_factOf 96 = .ok (.invokestatic 284, 3) := by decide +kernel
theorem dX12_factOf_99 : decode cX12_factOf 99 = .ok (.ireturn, 1) := by decide +kernel
theorem dX12_factOf_100 : decode cX12_factOf 100 = .ok (.aload_n 0, 1) := by decide +kernel
theorem dX12_factOf_101 : decode cX12_factOf 101 = .ok (.iload 4, 2) := by decide +kernel
theorem dX12_factOf_103 : decode cX12_factOf 103 = .ok (.invokevirtual 299, 3) := by decide +kernel
theorem dX12_factOf_106 : decode cX12_factOf 106 = .ok (.ireturn, 1) := by decide +kernel
theorem dX12_factOf_107 : decode cX12_factOf 107 = .ok (.aload_n 0, 1) := by decide +kernel
theorem dX12_factOf_108 : decode cX12_factOf 108 = .ok (.iload 4, 2) := by decide +kernel
theorem dX12_factOf_110 : decode cX12_factOf 110 = .ok (.iconst 3, 1) := by decide +kernel
theorem dX12_factOf_111 : decode cX12_factOf 111 = .ok (.invokevirtual 131, 3) := by decide +kernel
theorem dX12_factOf_114 : decode cX12_factOf 114 = .ok (.ireturn, 1) := by decide +kernel
theorem dX12_factOf_115 : decode cX12_factOf 115 = .ok (.iload 4, 2) := by decide +kernel
theorem dX12_factOf_117 : decode cX12_factOf 117 = .ok (.ireturn, 1) := by decide +kernel
theorem dX12_factOf_118 : decode cX12_factOf 118 = .ok (.aload_n 0, 1) := by decide +kernel
theorem dX12_factOf_119 : decode cX12_factOf 119 = .ok (.iload 4, 2) := by decide +kernel
theorem dX12_factOf_121 : decode cX12_factOf 121 = .ok (.invokevirtual 299, 3) := by decide +kernel
theorem dX12_factOf_124 : decode cX12_factOf 124 = .ok (.iconst 1, 1) := by decide +kernel
theorem dX12_factOf_125 : decode cX12_factOf 125 = .ok (.if_icmp .ne 7, 3) := by decide +kernel
theorem dX12_factOf_128 : decode cX12_factOf 128 = .ok (.iconst 1, 1) := by decide +kernel
theorem dX12_factOf_129 : decode cX12_factOf 129 = .ok (.goto 4, 3) := by decide +kernel
theorem dX12_factOf_132 : decode cX12_factOf 132 = .ok (.iconst 0, 1) := by decide +kernel
theorem dX12_factOf_133 : decode cX12_factOf 133 = .ok (.ireturn, 1) := by decide +kernel
theorem dX12_factOf_134 : decode cX12_factOf 134 = .ok (.aload_n 0, 1) := by decide +kernel
theorem dX12_factOf_135 : decode cX12_factOf 135 = .ok (.getfield 13, 3) := by decide +kernel
theorem dX12_factOf_138 : decode cX12_factOf 138 = .ok (.bipush 6, 2) := by decide +kernel
theorem dX12_factOf_140 : decode cX12_factOf 140 = .ok (.iaload, 1) := by decide +kernel
theorem dX12_factOf_141 : decode cX12_factOf 141 = .ok (.iload 4, 2) := by decide +kernel
theorem dX12_factOf_143 : decode cX12_factOf 143 = .ok (.if_icmp .ne 7, 3) := by decide +kernel
theorem dX12_factOf_146 : decode cX12_factOf 146 = .ok (.iconst 1, 1) := by decide +kernel
theorem dX12_factOf_147 : decode cX12_factOf 147 = .ok (.goto 4, 3) := by decide +kernel
theorem dX12_factOf_150 : decode cX12_factOf 150 = .ok (.iconst 0, 1) := by decide +kernel
theorem dX12_factOf_151 : decode cX12_factOf 151 = .ok (.ireturn, 1) := by decide +kernel
theorem dX12_factOf_152 : decode cX12_factOf 152 = .ok (.iload_n 2, 1) := by decide +kernel
theorem dX12_factOf_153 : decode cX12_factOf 153 = .ok (.aload_n 0, 1) := by decide +kernel
theorem dX12_factOf_154 : decode cX12_factOf 154 = .ok (.invokevirtual 68, 3) := by decide +kernel
theorem dX12_factOf_157 : decode cX12_factOf 157 = .ok (.if_icmp .ge 18, 3) := by decide +kernel
theorem dX12_factOf_160 : decode cX12_factOf 160 = .ok (.aload_n 0, 1) := by decide +kernel
theorem dX12_factOf_161 : decode cX12_factOf 161 = .ok (.getfield 36, 3) := by decide +kernel
theorem dX12_factOf_164 : decode cX12_factOf 164 = .ok (.iload_n 2, 1) := by decide +kernel
theorem dX12_factOf_165 : decode cX12_factOf 165 = .ok (.iaload, 1) := by decide +kernel
theorem dX12_factOf_166 : decode cX12_factOf 166 = .ok (.iload 4, 2) := by decide +kernel
theorem dX12_factOf_168 : decode cX12_factOf 168 = .ok (.if_icmp .ne 7, 3) := by decide +kernel
theorem dX12_factOf_171 : decode cX12_factOf 171 = .ok (.iconst 1, 1) := by decide +kernel
theorem dX12_factOf_172 : decode cX12_factOf 172 = .ok (.goto 4, 3) := by decide +kernel
theorem dX12_factOf_175 : decode cX12_factOf 175 = .ok (.iconst 0, 1) := by decide +kernel
theorem dX12_factOf_176 : decode cX12_factOf 176 = .ok (.ireturn, 1) := by decide +kernel
theorem dX12_factOf_177 : decode cX12_factOf 177 = .ok (.iload_n 2, 1) := by decide +kernel
theorem dX12_factOf_178 : decode cX12_factOf 178 = .ok (.ireturn, 1) := by decide +kernel
set_option maxRecDepth 100000 in
def F_X12_factOf_b133 (t0 : Int32) (h : Hp) : Option Int32 :=
  some t0
set_option maxHeartbeats 4000000 in
set_option maxRecDepth 100000 in
theorem r_X12_factOf_b133 (t0 : Int32) (h : Hp) {x : Cx} {r : Int32} (e : F_X12_factOf_b133 t0 h = some r) (hF : Fin9 M_X12_factOf x (some .int) (some (.int r)) h) : V M_X12_factOf x 2 133 [] [.int t0] h 0 0 := by
  unfold F_X12_factOf_b133 at e
  cases e
  exact V_iret (pc := 133) dX12_factOf_133 hF
set_option maxRecDepth 100000 in
def F_X12_factOf_b151 (t0 : Int32) (h : Hp) : Option Int32 :=
  some t0
set_option maxHeartbeats 4000000 in
set_option maxRecDepth 100000 in
theorem r_X12_factOf_b151 (t0 : Int32) (h : Hp) {x : Cx} {r : Int32} (e : F_X12_factOf_b151 t0 h = some r) (hF : Fin9 M_X12_factOf x (some .int) (some (.int r)) h) : V M_X12_factOf x 2 151 [] [.int t0] h 0 0 := by
  unfold F_X12_factOf_b151 at e
  cases e
  exact V_iret (pc := 151) dX12_factOf_151 hF
set_option maxRecDepth 100000 in
def F_X12_factOf_b176 (t0 : Int32) (h : Hp) : Option Int32 :=
  some t0
set_option maxHeartbeats 4000000 in
set_option maxRecDepth 100000 in
theorem r_X12_factOf_b176 (t0 : Int32) (h : Hp) {x : Cx} {r : Int32} (e : F_X12_factOf_b176 t0 h = some r) (hF : Fin9 M_X12_factOf x (some .int) (some (.int r)) h) : V M_X12_factOf x 2 176 [] [.int t0] h 0 0 := by
  unfold F_X12_factOf_b176 at e
  cases e
  exact V_iret (pc := 176) dX12_factOf_176 hF
set_option maxRecDepth 100000 in
def F_X12_factOf_b175  (h : Hp) : Option Int32 :=
  F_X12_factOf_b176 (0 : Int32) h
set_option maxHeartbeats 4000000 in
set_option maxRecDepth 100000 in
theorem r_X12_factOf_b175  (h : Hp) {x : Cx} {r : Int32} (e : F_X12_factOf_b175  h = some r) (hF : Fin9 M_X12_factOf x (some .int) (some (.int r)) h) : V M_X12_factOf x 2 175 [] [] h 0 0 := by
  unfold F_X12_factOf_b175 at e
  refine V_iconst (pc := 175) (v := (0 : Int32)) dX12_factOf_175 (by decide) ?_
  exact V_pick [] rfl (r_X12_factOf_b176 (0 : Int32) h e hF)
set_option maxRecDepth 100000 in
def F_X12_factOf_b0 (v0 : Nat) (v1 : Int32) (v2 : Int32) (v3 : Int32) (h : Hp) : Option Int32 :=
  gd (decide (kd h v0 = 11)) <| ob (zR h v0 15) fun q2 => gd (decide (kd h q2 = 13)) <| gd (ix v3 (zl h q2)) <| (if v1 = (0 : Int32) then ob (F_X12_ofRoom v0 (zI h q2 (v3).toNatClampNeg) (0 : Int32) h) fun r7 => some (r7 + (9 : Int32)) else if v1 = (1 : Int32) then ob (F_X12_ofRoom v0 (zI h q2 (v3).toNatClampNeg) (1 : Int32) h) fun r10 => some (r10 + (9 : Int32)) else if v1 = (2 : Int32) then ob (F_X12_ofRoom v0 (zI h q2 (v3).toNatClampNeg) (0 : Int32) h) fun r13 => ob (F_X12_ofRoom v0 (zI h q2 (v3).toNatClampNeg) (1 : Int32) h) fun r15 => ob (F_X12_farOf r13 r15 h) fun r17 => some r17 else if v1 = (3 : Int32) then ob (F_X12_headsIn v0 (zI h q2 (v3).toNatClampNeg) h) fun r20 => some r20 else if v1 = (4 : Int32) then ob (F_X12_ofRoom v0 (zI h q2 (v3).toNatClampNeg) (3 : Int32) h) fun r23 => some r23 else if v1 = (5 : Int32) then some (zI h q2 (v3).toNatClampNeg) else if v1 = (6 : Int32) then ob (F_X12_headsIn v0 (zI h q2 (v3).toNatClampNeg) h) fun r27 => (if r27 = (1 : Int32) then F_X12_factOf_b133 (1 : Int32) h else F_X12_factOf_b133 (0 : Int32) h) else if v1 = (7 : Int32) then ob (zR h v0 1) fun q30 => gd (decide (kd h q30 = 13)) <| gd (ix (6 : Int32) (zl h q30)) <| (if (zI h q30 ((6 : Int32)).toNatClampNeg) = (zI h q2 (v3).toNatClampNeg) then F_X12_factOf_b151 (1 : Int32) h else F_X12_factOf_b151 (0 : Int32) h) else if v1 = (8 : Int32) then ob (F_X12_guests v0 h) fun r37 => (if r37 ≤ v2 then F_X12_factOf_b175 h else ob (zR h v0 15) fun q38 => gd (decide (kd h q38 = 13)) <| gd (ix v2 (zl h q38)) <| (if (zI h q38 (v2).toNatClampNeg) = (zI h q2 (v3).toNatClampNeg) then F_X12_factOf_b176 (1 : Int32) h else F_X12_factOf_b175 h)) else some v2)
set_option maxHeartbeats 4000000 in
set_option maxRecDepth 100000 in
theorem r_X12_factOf_b0 (v0 : Nat) (v1 : Int32) (v2 : Int32) (v3 : Int32) (h : Hp) {x : Cx} {r : Int32} (e : F_X12_factOf_b0 v0 v1 v2 v3 h = some r) (hF : Fin9 M_X12_factOf x (some .int) (some (.int r)) h) : V M_X12_factOf x 2 0 [(0, .ref v0), (1, .int v1), (2, .int v2), (3, .int v3)] [] h 0 0 := by
  unfold F_X12_factOf_b0 at e
  refine V_aload_n (pc := 0) (i := 0) dX12_factOf_0 rfl rfl ?_
  obtain ⟨g1, e⟩ := gd_some e
  obtain ⟨q2, g3, e⟩ := ob_some e
  refine V_getR (pc := 1) (ci := 11) (k := 15) (b := q2) dX12_factOf_1 fl_X12_36 rfl (of_decide_eq_true g1) g3 ?_
  refine V_iload_n (pc := 4) (i := 3) dX12_factOf_4 rfl rfl ?_
  obtain ⟨g4, e⟩ := gd_some e
  obtain ⟨g5, e⟩ := gd_some e
  refine V_iald (pc := 5) dX12_factOf_5 (of_decide_eq_true g4) (ix_in g5) ?_
  refine V_istore (pc := 6) (i := 4) (lv' := [(4, .int (zI h q2 (v3).toNatClampNeg)), (0, .ref v0), (1, .int v1), (2, .int v2), (3, .int v3)]) dX12_factOf_6 (by decide) rfl ?_
  refine V_iload_n (pc := 8) (i := 1) dX12_factOf_8 rfl rfl ?_
  by_cases c8 : v1 = (0 : Int32)
  · rw [if_pos c8] at e
    refine V_tableIn (pc := 9) (tgt := 60) dX12_factOf_9 (by rw [c8]; decide) (by rw [c8]; decide) (by rw [c8]; rfl) (by decide) ?_
    refine V_pick [1, 0] rfl ?_
    refine V_aload_n (pc := 60) (i := 0) dX12_factOf_60 rfl rfl ?_
    refine V_iload (pc := 61) (i := 4) dX12_factOf_61 rfl ?_
    refine V_iconst (pc := 63) (v := (0 : Int32)) dX12_factOf_63 (by decide) ?_
    obtain ⟨r7, g6, e⟩ := ob_some e
    refine V_callV (pc := 64) (bc := 0) (bs := 0) (mc := 0) (ms := 0) (st := []) (As := [.int (zI h q2 (v3).toNatClampNeg), .int (0 : Int32)]) (a := v0) (h' := h) (r := some (.int r7)) dX12_factOf_64 ml_X12_131 (ci := 11) rfl (of_decide_eq_true g1) rfl rfl (Nat.le_of_ble_eq_true rfl) (d' := 0) (by decide) (c_X12_ofRoom (l := x.2.1) v0 (zI h q2 (v3).toNatClampNeg) (0 : Int32) h g6) ?_
    refine V_bipush (pc := 67) (v := (9 : Int32)) dX12_factOf_67 (by decide) ?_
    refine V_iadd (pc := 69) dX12_factOf_69 ?_
    cases e
    exact V_iret (pc := 70) dX12_factOf_70 hF
  · rw [if_neg c8] at e
    by_cases c11 : v1 = (1 : Int32)
    · rw [if_pos c11] at e
      refine V_tableIn (pc := 9) (tgt := 71) dX12_factOf_9 (by rw [c11]; decide) (by rw [c11]; decide) (by rw [c11]; rfl) (by decide) ?_
      refine V_pick [1, 0] rfl ?_
      refine V_aload_n (pc := 71) (i := 0) dX12_factOf_71 rfl rfl ?_
      refine V_iload (pc := 72) (i := 4) dX12_factOf_72 rfl ?_
      refine V_iconst (pc := 74) (v := (1 : Int32)) dX12_factOf_74 (by decide) ?_
      obtain ⟨r10, g9, e⟩ := ob_some e
      refine V_callV (pc := 75) (bc := 0) (bs := 0) (mc := 0) (ms := 0) (st := []) (As := [.int (zI h q2 (v3).toNatClampNeg), .int (1 : Int32)]) (a := v0) (h' := h) (r := some (.int r10)) dX12_factOf_75 ml_X12_131 (ci := 11) rfl (of_decide_eq_true g1) rfl rfl (Nat.le_of_ble_eq_true rfl) (d' := 0) (by decide) (c_X12_ofRoom (l := x.2.1) v0 (zI h q2 (v3).toNatClampNeg) (1 : Int32) h g9) ?_
      refine V_bipush (pc := 78) (v := (9 : Int32)) dX12_factOf_78 (by decide) ?_
      refine V_iadd (pc := 80) dX12_factOf_80 ?_
      cases e
      exact V_iret (pc := 81) dX12_factOf_81 hF
    · rw [if_neg c11] at e
      by_cases c18 : v1 = (2 : Int32)
      · rw [if_pos c18] at e
        refine V_tableIn (pc := 9) (tgt := 82) dX12_factOf_9 (by rw [c18]; decide) (by rw [c18]; decide) (by rw [c18]; rfl) (by decide) ?_
        refine V_pick [1, 0] rfl ?_
        refine V_aload_n (pc := 82) (i := 0) dX12_factOf_82 rfl rfl ?_
        refine V_iload (pc := 83) (i := 4) dX12_factOf_83 rfl ?_
        refine V_iconst (pc := 85) (v := (0 : Int32)) dX12_factOf_85 (by decide) ?_
        obtain ⟨r13, g12, e⟩ := ob_some e
        refine V_callV (pc := 86) (bc := 0) (bs := 0) (mc := 0) (ms := 0) (st := []) (As := [.int (zI h q2 (v3).toNatClampNeg), .int (0 : Int32)]) (a := v0) (h' := h) (r := some (.int r13)) dX12_factOf_86 ml_X12_131 (ci := 11) rfl (of_decide_eq_true g1) rfl rfl (Nat.le_of_ble_eq_true rfl) (d' := 0) (by decide) (c_X12_ofRoom (l := x.2.1) v0 (zI h q2 (v3).toNatClampNeg) (0 : Int32) h g12) ?_
        refine V_aload_n (pc := 89) (i := 0) dX12_factOf_89 rfl rfl ?_
        refine V_iload (pc := 90) (i := 4) dX12_factOf_90 rfl ?_
        refine V_iconst (pc := 92) (v := (1 : Int32)) dX12_factOf_92 (by decide) ?_
        obtain ⟨r15, g14, e⟩ := ob_some e
        refine V_callV (pc := 93) (bc := 0) (bs := 0) (mc := 0) (ms := 0) (st := [.int r13]) (As := [.int (zI h q2 (v3).toNatClampNeg), .int (1 : Int32)]) (a := v0) (h' := h) (r := some (.int r15)) dX12_factOf_93 ml_X12_131 (ci := 11) rfl (of_decide_eq_true g1) rfl rfl (Nat.le_of_ble_eq_true rfl) (d' := 0) (by decide) (c_X12_ofRoom (l := x.2.1) v0 (zI h q2 (v3).toNatClampNeg) (1 : Int32) h g14) ?_
        obtain ⟨r17, g16, e⟩ := ob_some e
        refine V_callS (pc := 96) (bc := 0) (bs := 0) (mc := 0) (ms := 0) (st := []) (As := [.int r13, .int r15]) (h' := h) (r := some (.int r17)) dX12_factOf_96 ml_X12_284 rfl rfl (Nat.le_of_ble_eq_true rfl) (d' := 1) (by decide) (c_X12_farOf (l := x.2.1) r13 r15 h g16) ?_
        cases e
        exact V_iret (pc := 99) dX12_factOf_99 hF
      · rw [if_neg c18] at e
        by_cases c21 : v1 = (3 : Int32)
        · rw [if_pos c21] at e
          refine V_tableIn (pc := 9) (tgt := 100) dX12_factOf_9 (by rw [c21]; decide) (by rw [c21]; decide) (by rw [c21]; rfl) (by decide) ?_
          refine V_pick [1, 0] rfl ?_
          refine V_aload_n (pc := 100) (i := 0) dX12_factOf_100 rfl rfl ?_
          refine V_iload (pc := 101) (i := 4) dX12_factOf_101 rfl ?_
          obtain ⟨r20, g19, e⟩ := ob_some e
          refine V_callV (pc := 103) (bc := 0) (bs := 0) (mc := 0) (ms := 0) (st := []) (As := [.int (zI h q2 (v3).toNatClampNeg)]) (a := v0) (h' := h) (r := some (.int r20)) dX12_factOf_103 ml_X12_299 (ci := 11) rfl (of_decide_eq_true g1) rfl rfl (Nat.le_of_ble_eq_true rfl) (d' := 1) (by decide) (c_X12_headsIn (l := x.2.1) v0 (zI h q2 (v3).toNatClampNeg) h g19) ?_
          cases e
          exact V_iret (pc := 106) dX12_factOf_106 hF
        · rw [if_neg c21] at e
          by_cases c24 : v1 = (4 : Int32)
          · rw [if_pos c24] at e
            refine V_tableIn (pc := 9) (tgt := 107) dX12_factOf_9 (by rw [c24]; decide) (by rw [c24]; decide) (by rw [c24]; rfl) (by decide) ?_
            refine V_pick [1, 0] rfl ?_
            refine V_aload_n (pc := 107) (i := 0) dX12_factOf_107 rfl rfl ?_
            refine V_iload (pc := 108) (i := 4) dX12_factOf_108 rfl ?_
            refine V_iconst (pc := 110) (v := (3 : Int32)) dX12_factOf_110 (by decide) ?_
            obtain ⟨r23, g22, e⟩ := ob_some e
            refine V_callV (pc := 111) (bc := 0) (bs := 0) (mc := 0) (ms := 0) (st := []) (As := [.int (zI h q2 (v3).toNatClampNeg), .int (3 : Int32)]) (a := v0) (h' := h) (r := some (.int r23)) dX12_factOf_111 ml_X12_131 (ci := 11) rfl (of_decide_eq_true g1) rfl rfl (Nat.le_of_ble_eq_true rfl) (d' := 0) (by decide) (c_X12_ofRoom (l := x.2.1) v0 (zI h q2 (v3).toNatClampNeg) (3 : Int32) h g22) ?_
            cases e
            exact V_iret (pc := 114) dX12_factOf_114 hF
          · rw [if_neg c24] at e
            by_cases c25 : v1 = (5 : Int32)
            · rw [if_pos c25] at e
              refine V_tableIn (pc := 9) (tgt := 115) dX12_factOf_9 (by rw [c25]; decide) (by rw [c25]; decide) (by rw [c25]; rfl) (by decide) ?_
              refine V_pick [0] rfl ?_
              refine V_iload (pc := 115) (i := 4) dX12_factOf_115 rfl ?_
              cases e
              exact V_iret (pc := 117) dX12_factOf_117 hF
            · rw [if_neg c25] at e
              by_cases c29 : v1 = (6 : Int32)
              · rw [if_pos c29] at e
                refine V_tableIn (pc := 9) (tgt := 118) dX12_factOf_9 (by rw [c29]; decide) (by rw [c29]; decide) (by rw [c29]; rfl) (by decide) ?_
                refine V_pick [1, 0] rfl ?_
                refine V_aload_n (pc := 118) (i := 0) dX12_factOf_118 rfl rfl ?_
                refine V_iload (pc := 119) (i := 4) dX12_factOf_119 rfl ?_
                obtain ⟨r27, g26, e⟩ := ob_some e
                refine V_callV (pc := 121) (bc := 0) (bs := 0) (mc := 0) (ms := 0) (st := []) (As := [.int (zI h q2 (v3).toNatClampNeg)]) (a := v0) (h' := h) (r := some (.int r27)) dX12_factOf_121 ml_X12_299 (ci := 11) rfl (of_decide_eq_true g1) rfl rfl (Nat.le_of_ble_eq_true rfl) (d' := 1) (by decide) (c_X12_headsIn (l := x.2.1) v0 (zI h q2 (v3).toNatClampNeg) h g26) ?_
                refine V_iconst (pc := 124) (v := (1 : Int32)) dX12_factOf_124 (by decide) ?_
                refine V_icmp_ne (pc := 125) (tgt := 132) dX12_factOf_125 (by decide) (fun c28 => ?_) (fun c28 => ?_)
                · rw [if_neg c28] at e
                  refine V_pick [] rfl ?_
                  refine V_iconst (pc := 132) (v := (0 : Int32)) dX12_factOf_132 (by decide) ?_
                  exact V_pick [] rfl (r_X12_factOf_b133 (0 : Int32) h e hF)
                · rw [if_pos c28] at e
                  refine V_pick [] rfl ?_
                  refine V_iconst (pc := 128) (v := (1 : Int32)) dX12_factOf_128 (by decide) ?_
                  refine V_goto (pc := 129) (tgt := 133) dX12_factOf_129 (by decide) ?_
                  exact V_pick [] rfl (r_X12_factOf_b133 (1 : Int32) h e hF)
              · rw [if_neg c29] at e
                by_cases c35 : v1 = (7 : Int32)
                · rw [if_pos c35] at e
                  refine V_tableIn (pc := 9) (tgt := 134) dX12_factOf_9 (by rw [c35]; decide) (by rw [c35]; decide) (by rw [c35]; rfl) (by decide) ?_
                  refine V_pick [1, 0] rfl ?_
                  refine V_aload_n (pc := 134) (i := 0) dX12_factOf_134 rfl rfl ?_
                  obtain ⟨q30, g31, e⟩ := ob_some e
                  refine V_getR (pc := 135) (ci := 11) (k := 1) (b := q30) dX12_factOf_135 fl_X12_13 rfl (of_decide_eq_true g1) g31 ?_
                  refine V_bipush (pc := 138) (v := (6 : Int32)) dX12_factOf_138 (by decide) ?_
                  obtain ⟨g32, e⟩ := gd_some e
                  obtain ⟨g33, e⟩ := gd_some e
                  refine V_iald (pc := 140) dX12_factOf_140 (of_decide_eq_true g32) (ix_in g33) ?_
                  refine V_iload (pc := 141) (i := 4) dX12_factOf_141 rfl ?_
                  refine V_icmp_ne (pc := 143) (tgt := 150) dX12_factOf_143 (by decide) (fun c34 => ?_) (fun c34 => ?_)
                  · rw [if_neg c34] at e
                    refine V_pick [] rfl ?_
                    refine V_iconst (pc := 150) (v := (0 : Int32)) dX12_factOf_150 (by decide) ?_
                    exact V_pick [] rfl (r_X12_factOf_b151 (0 : Int32) h e hF)
                  · rw [if_pos c34] at e
                    refine V_pick [] rfl ?_
                    refine V_iconst (pc := 146) (v := (1 : Int32)) dX12_factOf_146 (by decide) ?_
                    refine V_goto (pc := 147) (tgt := 151) dX12_factOf_147 (by decide) ?_
                    exact V_pick [] rfl (r_X12_factOf_b151 (1 : Int32) h e hF)
                · rw [if_neg c35] at e
                  by_cases c44 : v1 = (8 : Int32)
                  · rw [if_pos c44] at e
                    refine V_tableIn (pc := 9) (tgt := 152) dX12_factOf_9 (by rw [c44]; decide) (by rw [c44]; decide) (by rw [c44]; rfl) (by decide) ?_
                    refine V_pick [1, 3, 0] rfl ?_
                    refine V_iload_n (pc := 152) (i := 2) dX12_factOf_152 rfl rfl ?_
                    refine V_aload_n (pc := 153) (i := 0) dX12_factOf_153 rfl rfl ?_
                    obtain ⟨r37, g36, e⟩ := ob_some e
                    refine V_callV (pc := 154) (bc := 0) (bs := 0) (mc := 0) (ms := 0) (st := [.int v2]) (As := []) (a := v0) (h' := h) (r := some (.int r37)) dX12_factOf_154 ml_X12_68 (ci := 11) rfl (of_decide_eq_true g1) rfl rfl (Nat.le_of_ble_eq_true rfl) (d' := 0) (by decide) (c_X12_guests (l := x.2.1) v0 h g36) ?_
                    refine V_icmp_ge (pc := 157) (tgt := 175) dX12_factOf_157 (by decide) (fun c43 => ?_) (fun c43 => ?_)
                    · rw [if_pos c43] at e
                      exact V_pick [] rfl (r_X12_factOf_b175 h e hF)
                    · rw [if_neg c43] at e
                      refine V_pick [0, 1, 2] rfl ?_
                      refine V_aload_n (pc := 160) (i := 0) dX12_factOf_160 rfl rfl ?_
                      obtain ⟨q38, g39, e⟩ := ob_some e
                      refine V_getR (pc := 161) (ci := 11) (k := 15) (b := q38) dX12_factOf_161 fl_X12_36 rfl (of_decide_eq_true g1) g39 ?_
                      refine V_iload_n (pc := 164) (i := 2) dX12_factOf_164 rfl rfl ?_
                      obtain ⟨g40, e⟩ := gd_some e
                      obtain ⟨g41, e⟩ := gd_some e
                      refine V_iald (pc := 165) dX12_factOf_165 (of_decide_eq_true g40) (ix_in g41) ?_
                      refine V_iload (pc := 166) (i := 4) dX12_factOf_166 rfl ?_
                      refine V_icmp_ne (pc := 168) (tgt := 175) dX12_factOf_168 (by decide) (fun c42 => ?_) (fun c42 => ?_)
                      · rw [if_neg c42] at e
                        exact V_pick [] rfl (r_X12_factOf_b175 h e hF)
                      · rw [if_pos c42] at e
                        refine V_pick [] rfl ?_
                        refine V_iconst (pc := 171) (v := (1 : Int32)) dX12_factOf_171 (by decide) ?_
                        refine V_goto (pc := 172) (tgt := 176) dX12_factOf_172 (by decide) ?_
                        exact V_pick [] rfl (r_X12_factOf_b176 (1 : Int32) h e hF)
                  · rw [if_neg c44] at e
                    refine V_tableOut (pc := 9) (tgt := 177) dX12_factOf_9 (by have q0 := tI_ne c8 (z := 0) (by decide); have q1 := tI_ne c11 (z := 1) (by decide); have q2 := tI_ne c18 (z := 2) (by decide); have q3 := tI_ne c21 (z := 3) (by decide); have q4 := tI_ne c24 (z := 4) (by decide); have q5 := tI_ne c25 (z := 5) (by decide); have q6 := tI_ne c29 (z := 6) (by decide); have q7 := tI_ne c35 (z := 7) (by decide); have q8 := tI_ne c44 (z := 8) (by decide); omega) (by decide) ?_
                    refine V_pick [3] rfl ?_
                    refine V_iload_n (pc := 177) (i := 2) dX12_factOf_177 rfl rfl ?_
                    cases e
                    exact V_iret (pc := 178) dX12_factOf_178 hF
def F_X12_factOf (v0 : Nat) (v1 : Int32) (v2 : Int32) (v3 : Int32) (h : Hp) : Option Int32 := F_X12_factOf_b0 v0 v1 v2 v3 h
theorem c_X12_factOf {l : Launch} (v0 : Nat) (v1 : Int32) (v2 : Int32) (v3 : Int32) (h : Hp) {r : Int32} (e : F_X12_factOf v0 v1 v2 v3 h = some r) : Ct l yX12_factOf M_X12_factOf (some .int) 2 [.ref v0, .int v1, .int v2, .int v3] h 0 0 (some (.int r)) h :=
  Ct_of rfl rfl (fun q => by cases q) (Nat.le_of_ble_eq_true rfl) (fun x _ hF => V_pick [0, 1, 2, 3] rfl (r_X12_factOf_b0 v0 v1 v2 v3 h e hF))
theorem dX12_holdsWish_0 : decode cX12_holdsWish 0 = .ok (.sipush 147, 3) := by decide +kernel
theorem dX12_holdsWish_3 : decode cX12_holdsWish 3 = .ok (.sipush 817, 3) := by decide +kernel
theorem dX12_holdsWish_6 : decode cX12_holdsWish 6 = .ok (.iload_n 1, 1) := by decide +kernel
theorem dX12_holdsWish_7 : decode cX12_holdsWish 7 = .ok (.imul, 1) := by decide +kernel
theorem dX12_holdsWish_8 : decode cX12_holdsWish 8 = .ok (.iadd, 1) := by decide +kernel
theorem dX12_holdsWish_9 : decode cX12_holdsWish 9 = .ok (.istore_n 3, 1) := by decide +kernel
theorem dX12_holdsWish_10 : decode cX12_holdsWish 10 = .ok (.iconst 0, 1) := by decide +kernel
theorem dX12_holdsWish_11 : decode cX12_holdsWish 11 = .ok (.istore 4, 2) := by decide +kernel
theorem dX12_holdsWish_13 : decode cX12_holdsWish 13 = .ok (.aload_n 0, 1) := by decide +kernel
theorem dX12_holdsWish_14 : decode cX12_holdsWish 14 = .ok (.getfield 13, 3) := by decide +kernel
theorem dX12_holdsWish_17 : decode cX12_holdsWish 17 = .ok (.iload_n 3, 1) := by decide +kernel
theorem dX12_holdsWish_18 : decode cX12_holdsWish 18 = .ok (.iconst 1, 1) := by decide +kernel
theorem dX12_holdsWish_19 : decode cX12_holdsWish 19 = .ok (.iadd, 1) := by decide +kernel
theorem dX12_holdsWish_20 : decode cX12_holdsWish 20 = .ok (.iconst 2, 1) := by decide +kernel
theorem dX12_holdsWish_21 : decode cX12_holdsWish 21 = .ok (.iload_n 2, 1) := by decide +kernel
theorem dX12_holdsWish_22 : decode cX12_holdsWish 22 = .ok (.imul, 1) := by decide +kernel
theorem dX12_holdsWish_23 : decode cX12_holdsWish 23 = .ok (.iadd, 1) := by decide +kernel
theorem dX12_holdsWish_24 : decode cX12_holdsWish 24 = .ok (.iaload, 1) := by decide +kernel
theorem dX12_holdsWish_25 : decode cX12_holdsWish 25 = .ok (.istore 5, 2) := by decide +kernel
theorem dX12_holdsWish_27 : decode cX12_holdsWish 27 = .ok (.iload 5, 2) := by decide +kernel
theorem dX12_holdsWish_29 : decode cX12_holdsWish 29 = .ok (.aload_n 0, 1) := by decide +kernel
theorem dX12_holdsWish_30 : decode cX12_holdsWish 30 = .ok (.getfield 13, 3) := by decide +kernel
theorem dX12_holdsWish_33 : decode cX12_holdsWish 33 = .ok (.iload_n 3, 1) := by decide +kernel
theorem dX12_holdsWish_34 : decode cX12_holdsWish 34 = .ok (.iconst 2, 1) := by decide +kernel
theorem dX12_holdsWish_35 : decode cX12_holdsWish 35 = .ok (.iadd, 1) := by decide +kernel
theorem dX12_holdsWish_36 : decode cX12_holdsWish 36 = .ok (.iconst 2, 1) := by decide +kernel
theorem dX12_holdsWish_37 : decode cX12_holdsWish 37 = .ok (.iload_n 2, 1) := by decide +kernel
theorem dX12_holdsWish_38 : decode cX12_holdsWish 38 = .ok (.imul, 1) := by decide +kernel
theorem dX12_holdsWish_39 : decode cX12_holdsWish 39 = .ok (.iadd, 1) := by decide +kernel
theorem dX12_holdsWish_40 : decode cX12_holdsWish 40 = .ok (.iaload, 1) := by decide +kernel
theorem dX12_holdsWish_41 : decode cX12_holdsWish 41 = .ok (.if_icmp .ge 238, 3) := by decide +kernel
theorem dX12_holdsWish_44 : decode cX12_holdsWish 44 = .ok (.aload_n 0, 1) := by decide +kernel
theorem dX12_holdsWish_45 : decode cX12_holdsWish 45 = .ok (.getfield 13, 3) := by decide +kernel
theorem dX12_holdsWish_48 : decode cX12_holdsWish 48 = .ok (.iload_n 3, 1) := by decide +kernel
theorem dX12_holdsWish_49 : decode cX12_holdsWish 49 = .ok (.bipush 17, 2) := by decide +kernel
theorem dX12_holdsWish_51 : decode cX12_holdsWish 51 = .ok (.iadd, 1) := by decide +kernel
theorem dX12_holdsWish_52 : decode cX12_holdsWish 52 = .ok (.iconst 2, 1) := by decide +kernel
theorem dX12_holdsWish_53 : decode cX12_holdsWish 53 = .ok (.iload 5, 2) := by decide +kernel
theorem dX12_holdsWish_55 : decode cX12_holdsWish 55 = .ok (.imul, 1) := by decide +kernel
theorem dX12_holdsWish_56 : decode cX12_holdsWish 56 = .ok (.iadd, 1) := by decide +kernel
theorem dX12_holdsWish_57 : decode cX12_holdsWish 57 = .ok (.iaload, 1) := by decide +kernel
theorem dX12_holdsWish_58 : decode cX12_holdsWish 58 = .ok (.istore 6, 2) := by decide +kernel
theorem dX12_holdsWish_60 : decode cX12_holdsWish 60 = .ok (.iload 6, 2) := by decide +kernel
theorem dX12_holdsWish_62 : decode cX12_holdsWish 62 = .ok (.bipush 9, 2) := by decide +kernel
theorem dX12_holdsWish_64 : decode cX12_holdsWish 64 = .ok (.if_icmp .gt 39, 3) := by decide +kernel
theorem dX12_holdsWish_67 : decode cX12_holdsWish 67 = .ok (.aload_n 0, 1) := by decide +kernel
theorem dX12_holdsWish_68 : decode cX12_holdsWish 68 = .ok (.getfield 39, 3) := by decide +kernel
theorem dX12_holdsWish_71 : decode cX12_holdsWish 71 = .ok (.iload 4, 2) := by decide +kernel
theorem dX12_holdsWish_73 : decode cX12_holdsWish 73 = .ok (.aload_n 0, 1) := by decide +kernel
theorem dX12_holdsWish_74 : decode cX12_holdsWish 74 = .ok (.iload 6, 2) := by decide +kernel
theorem dX12_holdsWish_76 : decode cX12_holdsWish 76 = .ok (.aload_n 0, 1) := by decide +kernel
theorem dX12_holdsWish_77 : decode cX12_holdsWish 77 = .ok (.getfield 13, 3) := by decide +kernel
theorem dX12_holdsWish_80 : decode cX12_holdsWish 80 = .ok (.iload_n 3, 1) := by decide +kernel
theorem dX12_holdsWish_81 : decode cX12_holdsWish 81 = .ok (.bipush 17, 2) := by decide +kernel
theorem dX12_holdsWish_83 : decode cX12_holdsWish 83 = .ok (.iadd, 1) := by decide +kernel
theorem dX12_holdsWish_84 : decode cX12_holdsWish 84 = .ok (.iconst 2, 1) := by decide +kernel
theorem dX12_holdsWish_85 : decode cX12_holdsWish 85 = .ok (.iload 5, 2) := by decide +kernel
theorem dX12_holdsWish_87 : decode cX12_holdsWish 87 = .ok (.imul, 1) := by decide +kernel
theorem dX12_holdsWish_88 : decode cX12_holdsWish 88 = .ok (.iadd, 1) := by decide +kernel
theorem dX12_holdsWish_89 : decode cX12_holdsWish 89 = .ok (.iconst 1, 1) := by decide +kernel
theorem dX12_holdsWish_90 : decode cX12_holdsWish 90 = .ok (.iadd, 1) := by decide +kernel
theorem dX12_holdsWish_91 : decode cX12_holdsWish 91 = .ok (.iaload, 1) := by decide +kernel
theorem dX12_holdsWish_92 : decode cX12_holdsWish 92 = .ok (.iload_n 1, 1) := by decide +kernel
theorem dX12_holdsWish_93 : decode cX12_holdsWish 93 = .ok (.invokevirtual 302, 3) := by decide +kernel
theorem dX12_holdsWish_96 : decode cX12_holdsWish 96 = .ok (.iastore, 1) := by decide +kernel
theorem dX12_holdsWish_97 : decode cX12_holdsWish 97 = .ok (.iinc 4 1, 3) := by decide +kernel
theorem dX12_holdsWish_100 : decode cX12_holdsWish 100 = .ok (.goto 173, 3) := by decide +kernel
theorem dX12_holdsWish_103 : decode cX12_holdsWish 103 = .ok (.iload 6, 2) := by decide +kernel
theorem dX12_holdsWish_105 : decode cX12_holdsWish 105 = .ok (.bipush 13, 2) := by decide +kernel
theorem dX12_holdsWish_107 : decode cX12_holdsWish 107 = .ok (.if_icmp .ne 26, 3) := by decide +kernel
theorem dX12_holdsWish_110 : decode cX12_holdsWish 110 = .ok (.aload_n 0, 1) := by decide +kernel
theorem dX12_holdsWish_111 : decode cX12_holdsWish 111 = .ok (.getfield 39, 3) := by decide +kernel
theorem dX12_holdsWish_114 : decode cX12_holdsWish 114 = .ok (.iload 4, 2) := by decide +kernel
theorem dX12_holdsWish_116 : decode cX12_holdsWish 116 = .ok (.iconst 1, 1) := by decide +kernel
theorem dX12_holdsWish_117 : decode cX12_holdsWish 117 = .ok (.isub, 1) := by decide +kernel
theorem dX12_holdsWish_118 : decode cX12_holdsWish 118 = .ok (.iconst 1, 1) := by decide +kernel
theorem dX12_holdsWish_119 : decode cX12_holdsWish 119 = .ok (.aload_n 0, 1) := by decide +kernel
theorem dX12_holdsWish_120 : decode cX12_holdsWish 120 = .ok (.getfield 39, 3) := by decide +kernel
theorem dX12_holdsWish_123 : decode cX12_holdsWish 123 = .ok (.iload 4, 2) := by decide +kernel
theorem dX12_holdsWish_125 : decode cX12_holdsWish 125 = .ok (.iconst 1, 1) := by decide +kernel
theorem dX12_holdsWish_126 : decode cX12_holdsWish 126 = .ok (.isub, 1) := by decide +kernel
theorem dX12_holdsWish_127 : decode cX12_holdsWish 127 = .ok (.iaload, 1) := by decide +kernel
theorem dX12_holdsWish_128 : decode cX12_holdsWish 128 = .ok (.isub, 1) := by decide +kernel
theorem dX12_holdsWish_129 : decode cX12_holdsWish 129 = .ok (.iastore, 1) := by decide +kernel
theorem dX12_holdsWish_130 : decode cX12_holdsWish 130 = .ok (.goto 143, 3) := by decide +kernel
theorem dX12_holdsWish_133 : decode cX12_holdsWish 133 = .ok (.iinc 4 (-1), 3) := by decide +kernel
theorem dX12_holdsWish_136 : decode cX12_holdsWish 136 = .ok (.aload_n 0, 1) := by decide +kernel
theorem dX12_holdsWish_137 : decode cX12_holdsWish 137 = .ok (.getfield 39, 3) := by decide +kernel
theorem dX12_holdsWish_140 : decode cX12_holdsWish 140 = .ok (.iload 4, 2) := by decide +kernel
theorem dX12_holdsWish_142 : decode cX12_holdsWish 142 = .ok (.iconst 1, 1) := by decide +kernel
theorem dX12_holdsWish_143 : decode cX12_holdsWish 143 = .ok (.isub, 1) := by decide +kernel
theorem dX12_holdsWish_144 : decode cX12_holdsWish 144 = .ok (.iaload, 1) := by decide +kernel
theorem dX12_holdsWish_145 : decode cX12_holdsWish 145 = .ok (.istore 7, 2) := by decide +kernel
theorem dX12_holdsWish_147 : decode cX12_holdsWish 147 = .ok (.aload_n 0, 1) := by decide +kernel
theorem dX12_holdsWish_148 : decode cX12_holdsWish 148 = .ok (.getfield 39, 3) := by decide +kernel
theorem dX12_holdsWish_151 : decode cX12_holdsWish 151 = .ok (.iload 4, 2) := by decide +kernel
theorem dX12_holdsWish_153 : decode cX12_holdsWish 153 = .ok (.iaload, 1) := by decide +kernel
theorem dX12_holdsWish_154 : decode cX12_holdsWish 154 = .ok (.istore 8, 2) := by decide +kernel
theorem dX12_holdsWish_156 : decode cX12_holdsWish 156 = .ok (.iload 6, 2) := by decide +kernel
theorem dX12_holdsWish_158 : decode cX12_holdsWish 158 = .ok (.bipush 11, 2) := by decide +kernel
theorem dX12_holdsWish_160 : decode cX12_holdsWish 160 = .ok (.if_icmp .ne 18, 3) := by decide +kernel
theorem dX12_holdsWish_163 : decode cX12_holdsWish 163 = .ok (.iload 7, 2) := by decide +kernel
theorem dX12_holdsWish_165 : decode cX12_holdsWish 165 = .ok (.iload 8, 2) := by decide +kernel
theorem dX12_holdsWish_167 : decode cX12_holdsWish 167 = .ok (.if_icmp .ge 7, 3) := by decide +kernel
theorem dX12_holdsWish_170 : decode cX12_holdsWish 170 = .ok (.iconst 1, 1) := by decide +kernel
theorem dX12_holdsWish_171 : decode cX12_holdsWish 171 = .ok (.goto 66, 3) := by decide +kernel
theorem dX12_holdsWish_174 : decode cX12_holdsWish 174 = .ok (.iconst 0, 1) := by decide +kernel
theorem dX12_holdsWish_175 : decode cX12_holdsWish 175 = .ok (.goto 62, 3) := by decide +kernel
theorem dX12_holdsWish_178 : decode cX12_holdsWish 178 = .ok (.iload 6, 2) := by decide +kernel
theorem dX12_holdsWish_180 : decode cX12_holdsWish 180 = .ok (.bipush 12, 2) := by decide +kernel
theorem dX12_holdsWish_182 : decode cX12_holdsWish 182 = .ok (.if_icmp .ne 18, 3) := by decide +kernel
theorem dX12_holdsWish_185 : decode cX12_holdsWish 185 = .ok (.iload 7, 2) := by decide +kernel
theorem dX12_holdsWish_187 : decode cX12_holdsWish 187 = .ok (.iload 8, 2) := by decide +kernel
theorem dX12_holdsWish_189 : decode cX12_holdsWish 189 = .ok (.if_icmp .le 7, 3) := by decide +kernel
theorem dX12_holdsWish_192 : decode cX12_holdsWish 192 = .ok (.iconst 1, 1) := by decide +kernel
theorem dX12_holdsWish_193 : decode cX12_holdsWish 193 = .ok (.goto 44, 3) := by decide +kernel
theorem dX12_holdsWish_196 : decode cX12_holdsWish 196 = .ok (.iconst 0, 1) := by decide +kernel
theorem dX12_holdsWish_197 : decode cX12_holdsWish 197 = .ok (.goto 40, 3) := by decide +kernel
theorem dX12_holdsWish_200 : decode cX12_holdsWish 200 = .ok (.iload 6, 2) := by decide +kernel
theorem dX12_holdsWish_202 : decode cX12_holdsWish 202 = .ok (.bipush 14, 2) := by decide +kernel
theorem dX12_holdsWish_204 : decode cX12_holdsWish 204 = .ok (.if_icmp .ne 20, 3) := by decide +kernel
theorem dX12_holdsWish_207 : decode cX12_holdsWish 207 = .ok (.iload 7, 2) := by decide +kernel
theorem dX12_holdsWish_209 : decode cX12_holdsWish 209 = .ok (.iload 8, 2) := by decide +kernel
theorem dX12_holdsWish_211 : decode cX12_holdsWish 211 = .ok (.iadd, 1) := by decide +kernel
theorem dX12_holdsWish_212 : decode cX12_holdsWish 212 = .ok (.iconst 2, 1) := by decide +kernel
theorem dX12_holdsWish_213 : decode cX12_holdsWish 213 = .ok (.if_icmp .ne 7, 3) := by decide +kernel
theorem dX12_holdsWish_216 : decode cX12_holdsWish 216 = .ok (.iconst 1, 1) := by decide +kernel
theorem dX12_holdsWish_217 : decode cX12_holdsWish 217 = .ok (.goto 20, 3) := by decide +kernel
theorem dX12_holdsWish_220 : decode cX12_holdsWish 220 = .ok (.iconst 0, 1) := by decide +kernel
theorem dX12_holdsWish_221 : decode cX12_holdsWish 221 = .ok (.goto 16, 3) := by decide +kernel
theorem dX12_holdsWish_224 : decode cX12_holdsWish 224 = .ok (.iload 7, 2) := by decide +kernel
theorem dX12_holdsWish_226 : decode cX12_holdsWish 226 = .ok (.iload 8, 2) := by decide +kernel
theorem dX12_holdsWish_228 : decode cX12_holdsWish 228 = .ok (.iadd, 1) := by decide +kernel
theorem dX12_holdsWish_229 : decode cX12_holdsWish 229 = .ok (.ifCond .le 7, 3) := by decide +kernel
theorem dX12_holdsWish_232 : decode cX12_holdsWish 232 = .ok (.iconst 1, 1) := by decide +kernel
theorem dX12_holdsWish_233 : decode cX12_holdsWish 233 = .ok (.goto 4, 3) := by decide +kernel
theorem dX12_holdsWish_236 : decode cX12_holdsWish 236 = .ok (.iconst 0, 1) := by decide +kernel
theorem dX12_holdsWish_237 : decode cX12_holdsWish 237 = .ok (.istore 9, 2) := by decide +kernel
theorem dX12_holdsWish_239 : decode cX12_holdsWish 239 = .ok (.aload_n 0, 1) := by decide +kernel
theorem dX12_holdsWish_240 : decode cX12_holdsWish 240 = .ok (.getfield 39, 3) := by decide +kernel
theorem dX12_holdsWish_243 : decode cX12_holdsWish 243 = .ok (.iload 4, 2) := by decide +kernel
theorem dX12_holdsWish_245 : decode cX12_holdsWish 245 = .ok (.iconst 1, 1) := by decide +kernel
theorem dX12_holdsWish_246 : decode cX12_holdsWish 246 = .ok (.isub, 1) := by decide +kernel
theorem dX12_holdsWish_247 : decode cX12_holdsWish 247 = .ok (.iload 6, 2) := by decide +kernel
theorem dX12_holdsWish_249 : decode cX12_holdsWish 249 = .ok (.bipush 10, 2) := by decide +kernel
theorem dX12_holdsWish_251 : decode cX12_holdsWish 251 = .ok (.if_icmp .ne 11, 3) := by decide +kernel
theorem dX12_holdsWish_254 : decode cX12_holdsWish 254 = .ok (.iload 7, 2) := by decide +kernel
theorem dX12_holdsWish_256 : decode cX12_holdsWish 256 = .ok (.iload 8, 2) := by decide +kernel
theorem dX12_holdsWish_258 : decode cX12_holdsWish 258 = .ok (.iadd, 1) := by decide +kernel
theorem dX12_holdsWish_259 : decode cX12_holdsWish 259 = .ok (.goto 13, 3) := by decide +kernel
theorem dX12_holdsWish_262 : decode cX12_holdsWish 262 = .ok (.iload 9, 2) := by decide +kernel
theorem dX12_holdsWish_264 : decode cX12_holdsWish 264 = .ok (.ifCond .eq 7, 3) := by decide +kernel
theorem dX12_holdsWish_267 : decode cX12_holdsWish 267 = .ok (.iconst 1, 1) := by decide +kernel
theorem dX12_holdsWish_268 : decode cX12_holdsWish 268 = .ok (.goto 4, 3) := by decide +kernel
theorem dX12_holdsWish_271 : decode cX12_holdsWish 271 = .ok (.iconst 0, 1) := by decide +kernel
theorem dX12_holdsWish_272 : decode cX12_holdsWish 272 = .ok (.iastore, 1) := by decide +kernel
theorem dX12_holdsWish_273 : decode cX12_holdsWish 273 = .ok (.iinc 5 1, 3) := by decide +kernel
theorem dX12_holdsWish_276 : decode cX12_holdsWish 276 = .ok (.goto (-249), 3) := by decide +kernel
theorem dX12_holdsWish_279 : decode cX12_holdsWish 279 = .ok (.aload_n 0, 1) := by decide +kernel
theorem dX12_holdsWish_280 : decode cX12_holdsWish 280 = .ok (.getfield 39, 3) := by decide +kernel
theorem dX12_holdsWish_283 : decode cX12_holdsWish 283 = .ok (.iconst 0, 1) := by decide +kernel
theorem dX12_holdsWish_284 : decode cX12_holdsWish 284 = .ok (.iaload, 1) := by decide +kernel
theorem dX12_holdsWish_285 : decode cX12_holdsWish 285 = .ok (.iconst 1, 1) := by decide +kernel
theorem dX12_holdsWish_286 : decode cX12_holdsWish 286 = .ok (.if_icmp .ne 7, 3) := by decide +kernel
theorem dX12_holdsWish_289 : decode cX12_holdsWish 289 = .ok (.iconst 1, 1) := by decide +kernel
theorem dX12_holdsWish_290 : decode cX12_holdsWish 290 = .ok (.goto 4, 3) := by decide +kernel
theorem dX12_holdsWish_293 : decode cX12_holdsWish 293 = .ok (.iconst 0, 1) := by decide +kernel
theorem dX12_holdsWish_294 : decode cX12_holdsWish 294 = .ok (.ireturn, 1) := by decide +kernel
set_option maxRecDepth 100000 in
def F_X12_holdsWish_b273 (v0 : Nat) (v1 : Int32) (v2 : Int32) (v3 : Int32) (v4 : Int32) (v5 : Int32) (h : Hp) : Option ((Int32 × Int32 × Hp) ⊕ Hp) :=
  some (.inl (v4, v5 + (1 : Int32), h))
set_option maxHeartbeats 4000000 in
set_option maxRecDepth 100000 in
theorem r_X12_holdsWish_b273 (v0 : Nat) (v1 : Int32) (v2 : Int32) (v3 : Int32) (v4 : Int32) (v5 : Int32) (h : Hp) {x : Cx} {o : ((Int32 × Int32 × Hp) ⊕ Hp)} (e : F_X12_holdsWish_b273 v0 v1 v2 v3 v4 v5 h = some o) (kI : ∀ z, o = .inl z → V M_X12_holdsWish x 3 27 [(0, .ref v0), (1, .int v1), (2, .int v2), (3, .int v3), (4, .int z.1), (5, .int z.2.1)] [] z.2.2 0 0) (kE279 : ∀ z : Hp, o = .inr z → V M_X12_holdsWish x 3 279 [(0, .ref v0)] [] z 0 0) : V M_X12_holdsWish x 3 273 [(0, .ref v0), (1, .int v1), (2, .int v2), (3, .int v3), (4, .int v4), (5, .int v5)] [] h 0 0 := by
  unfold F_X12_holdsWish_b273 at e
  refine V_iinc (pc := 273) (i := 5) (u := v5 + (1 : Int32)) (lv' := [(5, .int (v5 + (1 : Int32))), (0, .ref v0), (1, .int v1), (2, .int v2), (3, .int v3), (4, .int v4)]) dX12_holdsWish_273 rfl rfl (by decide) rfl ?_
  refine V_goto (pc := 276) (tgt := 27) dX12_holdsWish_276 (by decide) ?_
  cases e
  exact V_pick [1, 2, 3, 4, 5, 0] rfl (kI (v4, v5 + (1 : Int32), h) rfl)
set_option maxRecDepth 100000 in
def F_X12_holdsWish_b272 (v0 : Nat) (v1 : Int32) (v2 : Int32) (v3 : Int32) (v4 : Int32) (v5 : Int32) (t0 : Nat) (t1 : Int32) (t2 : Int32) (h : Hp) : Option ((Int32 × Int32 × Hp) ⊕ Hp) :=
  gd (decide (kd h t0 = 13)) <| gd (ix t1 (zl h t0)) <| F_X12_holdsWish_b273 v0 v1 v2 v3 v4 v5 (setI h t0 (t1).toNatClampNeg t2)
set_option maxHeartbeats 4000000 in
set_option maxRecDepth 100000 in
theorem r_X12_holdsWish_b272 (v0 : Nat) (v1 : Int32) (v2 : Int32) (v3 : Int32) (v4 : Int32) (v5 : Int32) (t0 : Nat) (t1 : Int32) (t2 : Int32) (h : Hp) {x : Cx} {o : ((Int32 × Int32 × Hp) ⊕ Hp)} (e : F_X12_holdsWish_b272 v0 v1 v2 v3 v4 v5 t0 t1 t2 h = some o) (kI : ∀ z, o = .inl z → V M_X12_holdsWish x 3 27 [(0, .ref v0), (1, .int v1), (2, .int v2), (3, .int v3), (4, .int z.1), (5, .int z.2.1)] [] z.2.2 0 0) (kE279 : ∀ z : Hp, o = .inr z → V M_X12_holdsWish x 3 279 [(0, .ref v0)] [] z 0 0) : V M_X12_holdsWish x 3 272 [(0, .ref v0), (1, .int v1), (2, .int v2), (3, .int v3), (4, .int v4), (5, .int v5)] [.int t2, .int t1, .ref t0] h 0 0 := by
  unfold F_X12_holdsWish_b272 at e
  obtain ⟨g26, e⟩ := gd_some e
  obtain ⟨g27, e⟩ := gd_some e
  refine V_iast (pc := 272) dX12_holdsWish_272 (of_decide_eq_true g26) (ix_in g27) ?_
  exact V_pick [0, 1, 2, 3, 4, 5] rfl (r_X12_holdsWish_b273 v0 v1 v2 v3 v4 v5 (setI h t0 (t1).toNatClampNeg t2) e kI kE279)
set_option maxRecDepth 100000 in
def F_X12_holdsWish_b237 (v0 : Nat) (v1 : Int32) (v2 : Int32) (v3 : Int32) (v4 : Int32) (v5 : Int32) (v6 : Int32) (v7 : Int32) (v8 : Int32) (t0 : Int32) (h : Hp) : Option ((Int32 × Int32 × Hp) ⊕ Hp) :=
  gd (decide (kd h v0 = 11)) <| ob (zR h v0 16) fun q24 => (if v6 = (10 : Int32) then F_X12_holdsWish_b272 v0 v1 v2 v3 v4 v5 q24 (v4 - (1 : Int32)) (v7 + v8) h else (if t0 = 0 then F_X12_holdsWish_b272 v0 v1 v2 v3 v4 v5 q24 (v4 - (1 : Int32)) (0 : Int32) h else F_X12_holdsWish_b272 v0 v1 v2 v3 v4 v5 q24 (v4 - (1 : Int32)) (1 : Int32) h))
set_option maxHeartbeats 4000000 in
set_option maxRecDepth 100000 in
theorem r_X12_holdsWish_b237 (v0 : Nat) (v1 : Int32) (v2 : Int32) (v3 : Int32) (v4 : Int32) (v5 : Int32) (v6 : Int32) (v7 : Int32) (v8 : Int32) (t0 : Int32) (h : Hp) {x : Cx} {o : ((Int32 × Int32 × Hp) ⊕ Hp)} (e : F_X12_holdsWish_b237 v0 v1 v2 v3 v4 v5 v6 v7 v8 t0 h = some o) (kI : ∀ z, o = .inl z → V M_X12_holdsWish x 3 27 [(0, .ref v0), (1, .int v1), (2, .int v2), (3, .int v3), (4, .int z.1), (5, .int z.2.1)] [] z.2.2 0 0) (kE279 : ∀ z : Hp, o = .inr z → V M_X12_holdsWish x 3 279 [(0, .ref v0)] [] z 0 0) : V M_X12_holdsWish x 3 237 [(0, .ref v0), (1, .int v1), (2, .int v2), (3, .int v3), (4, .int v4), (5, .int v5), (6, .int v6), (7, .int v7), (8, .int v8)] [.int t0] h 0 0 := by
  unfold F_X12_holdsWish_b237 at e
  refine V_istore (pc := 237) (i := 9) (lv' := [(9, .int t0), (0, .ref v0), (1, .int v1), (2, .int v2), (3, .int v3), (4, .int v4), (5, .int v5), (6, .int v6), (7, .int v7), (8, .int v8)]) dX12_holdsWish_237 (by decide) rfl ?_
  refine V_aload_n (pc := 239) (i := 0) dX12_holdsWish_239 rfl rfl ?_
  obtain ⟨g23, e⟩ := gd_some e
  obtain ⟨q24, g25, e⟩ := ob_some e
  refine V_getR (pc := 240) (ci := 11) (k := 16) (b := q24) dX12_holdsWish_240 fl_X12_39 rfl (of_decide_eq_true g23) g25 ?_
  refine V_iload (pc := 243) (i := 4) dX12_holdsWish_243 rfl ?_
  refine V_iconst (pc := 245) (v := (1 : Int32)) dX12_holdsWish_245 (by decide) ?_
  refine V_isub (pc := 246) dX12_holdsWish_246 ?_
  refine V_iload (pc := 247) (i := 6) dX12_holdsWish_247 rfl ?_
  refine V_bipush (pc := 249) (v := (10 : Int32)) dX12_holdsWish_249 (by decide) ?_
  refine V_icmp_ne (pc := 251) (tgt := 262) dX12_holdsWish_251 (by decide) (fun c29 => ?_) (fun c29 => ?_)
  · rw [if_neg c29] at e
    refine V_pick [1, 2, 3, 4, 5, 6, 0] rfl ?_
    refine V_iload (pc := 262) (i := 9) dX12_holdsWish_262 rfl ?_
    refine V_if_eq (pc := 264) (tgt := 271) dX12_holdsWish_264 (by decide) (fun c28 => ?_) (fun c28 => ?_)
    · rw [if_pos c28] at e
      refine V_pick [0, 1, 2, 3, 4, 5] rfl ?_
      refine V_iconst (pc := 271) (v := (0 : Int32)) dX12_holdsWish_271 (by decide) ?_
      exact V_pick [0, 1, 2, 3, 4, 5] rfl (r_X12_holdsWish_b272 v0 v1 v2 v3 v4 v5 q24 (v4 - (1 : Int32)) (0 : Int32) h e kI kE279)
    · rw [if_neg c28] at e
      refine V_pick [0, 1, 2, 3, 4, 5] rfl ?_
      refine V_iconst (pc := 267) (v := (1 : Int32)) dX12_holdsWish_267 (by decide) ?_
      refine V_goto (pc := 268) (tgt := 272) dX12_holdsWish_268 (by decide) ?_
      exact V_pick [0, 1, 2, 3, 4, 5] rfl (r_X12_holdsWish_b272 v0 v1 v2 v3 v4 v5 q24 (v4 - (1 : Int32)) (1 : Int32) h e kI kE279)
  · rw [if_pos c29] at e
    refine V_pick [1, 2, 3, 4, 5, 6, 8, 9] rfl ?_
    refine V_iload (pc := 254) (i := 7) dX12_holdsWish_254 rfl ?_
    refine V_iload (pc := 256) (i := 8) dX12_holdsWish_256 rfl ?_
    refine V_iadd (pc := 258) dX12_holdsWish_258 ?_
    refine V_goto (pc := 259) (tgt := 272) dX12_holdsWish_259 (by decide) ?_
    exact V_pick [0, 1, 2, 3, 4, 5] rfl (r_X12_holdsWish_b272 v0 v1 v2 v3 v4 v5 q24 (v4 - (1 : Int32)) (v7 + v8) h e kI kE279)
set_option maxRecDepth 100000 in
def F_X12_holdsWish_l27 (v0 : Nat) (v1 : Int32) (v2 : Int32) (v3 : Int32) (v4 : Int32) (v5 : Int32) (h : Hp) : Option ((Int32 × Int32 × Hp) ⊕ Hp) :=
  gd (decide (kd h v0 = 11)) <| ob (zR h v0 1) fun q7 => gd (decide (kd h q7 = 13)) <| gd (ix ((v3 + (2 : Int32)) + ((2 : Int32) * v2)) (zl h q7)) <| (if (zI h q7 ((v3 + (2 : Int32)) + ((2 : Int32) * v2)).toNatClampNeg) ≤ v5 then some (.inr h) else ob (zR h v0 1) fun q11 => gd (decide (kd h q11 = 13)) <| gd (ix ((v3 + (17 : Int32)) + ((2 : Int32) * v5)) (zl h q11)) <| (if (9 : Int32) < (zI h q11 ((v3 + (17 : Int32)) + ((2 : Int32) * v5)).toNatClampNeg) then (if (zI h q11 ((v3 + (17 : Int32)) + ((2 : Int32) * v5)).toNatClampNeg) = (13 : Int32) then ob (zR h v0 16) fun q37 => ob (zR h v0 16) fun q39 => gd (decide (kd h q39 = 13)) <| gd (ix (v4 - (1 : Int32)) (zl h q39)) <| gd (decide (kd h q37 = 13)) <| gd (ix (v4 - (1 : Int32)) (zl h q37)) <| F_X12_holdsWish_b273 v0 v1 v2 v3 v4 v5 (setI h q37 (v4 - (1 : Int32)).toNatClampNeg ((1 : Int32) - (zI h q39 (v4 - (1 : Int32)).toNatClampNeg))) else ob (zR h v0 16) fun q15 => gd (decide (kd h q15 = 13)) <| gd (ix ((v4 + (-1 : Int32)) - (1 : Int32)) (zl h q15)) <| ob (zR h v0 16) fun q19 => gd (decide (kd h q19 = 13)) <| gd (ix (v4 + (-1 : Int32)) (zl h q19)) <| (if (zI h q11 ((v3 + (17 : Int32)) + ((2 : Int32) * v5)).toNatClampNeg) = (11 : Int32) then (if (zI h q19 (v4 + (-1 : Int32)).toNatClampNeg) ≤ (zI h q15 ((v4 + (-1 : Int32)) - (1 : Int32)).toNatClampNeg) then F_X12_holdsWish_b237 v0 v1 v2 v3 (v4 + (-1 : Int32)) v5 (zI h q11 ((v3 + (17 : Int32)) + ((2 : Int32) * v5)).toNatClampNeg) (zI h q15 ((v4 + (-1 : Int32)) - (1 : Int32)).toNatClampNeg) (zI h q19 (v4 + (-1 : Int32)).toNatClampNeg) (0 : Int32) h else F_X12_holdsWish_b237 v0 v1 v2 v3 (v4 + (-1 : Int32)) v5 (zI h q11 ((v3 + (17 : Int32)) + ((2 : Int32) * v5)).toNatClampNeg) (zI h q15 ((v4 + (-1 : Int32)) - (1 : Int32)).toNatClampNeg) (zI h q19 (v4 + (-1 : Int32)).toNatClampNeg) (1 : Int32) h) else (if (zI h q11 ((v3 + (17 : Int32)) + ((2 : Int32) * v5)).toNatClampNeg) = (12 : Int32) then (if (zI h q15 ((v4 + (-1 : Int32)) - (1 : Int32)).toNatClampNeg) ≤ (zI h q19 (v4 + (-1 : Int32)).toNatClampNeg) then F_X12_holdsWish_b237 v0 v1 v2 v3 (v4 + (-1 : Int32)) v5 (zI h q11 ((v3 + (17 : Int32)) + ((2 : Int32) * v5)).toNatClampNeg) (zI h q15 ((v4 + (-1 : Int32)) - (1 : Int32)).toNatClampNeg) (zI h q19 (v4 + (-1 : Int32)).toNatClampNeg) (0 : Int32) h else F_X12_holdsWish_b237 v0 v1 v2 v3 (v4 + (-1 : Int32)) v5 (zI h q11 ((v3 + (17 : Int32)) + ((2 : Int32) * v5)).toNatClampNeg) (zI h q15 ((v4 + (-1 : Int32)) - (1 : Int32)).toNatClampNeg) (zI h q19 (v4 + (-1 : Int32)).toNatClampNeg) (1 : Int32) h) else (if (zI h q11 ((v3 + (17 : Int32)) + ((2 : Int32) * v5)).toNatClampNeg) = (14 : Int32) then (if ((zI h q15 ((v4 + (-1 : Int32)) - (1 : Int32)).toNatClampNeg) + (zI h q19 (v4 + (-1 : Int32)).toNatClampNeg)) = (2 : Int32) then F_X12_holdsWish_b237 v0 v1 v2 v3 (v4 + (-1 : Int32)) v5 (zI h q11 ((v3 + (17 : Int32)) + ((2 : Int32) * v5)).toNatClampNeg) (zI h q15 ((v4 + (-1 : Int32)) - (1 : Int32)).toNatClampNeg) (zI h q19 (v4 + (-1 : Int32)).toNatClampNeg) (1 : Int32) h else F_X12_holdsWish_b237 v0 v1 v2 v3 (v4 + (-1 : Int32)) v5 (zI h q11 ((v3 + (17 : Int32)) + ((2 : Int32) * v5)).toNatClampNeg) (zI h q15 ((v4 + (-1 : Int32)) - (1 : Int32)).toNatClampNeg) (zI h q19 (v4 + (-1 : Int32)).toNatClampNeg) (0 : Int32) h) else (if ((zI h q15 ((v4 + (-1 : Int32)) - (1 : Int32)).toNatClampNeg) + (zI h q19 (v4 + (-1 : Int32)).toNatClampNeg)) ≤ 0 then F_X12_holdsWish_b237 v0 v1 v2 v3 (v4 + (-1 : Int32)) v5 (zI h q11 ((v3 + (17 : Int32)) + ((2 : Int32) * v5)).toNatClampNeg) (zI h q15 ((v4 + (-1 : Int32)) - (1 : Int32)).toNatClampNeg) (zI h q19 (v4 + (-1 : Int32)).toNatClampNeg) (0 : Int32) h else F_X12_holdsWish_b237 v0 v1 v2 v3 (v4 + (-1 : Int32)) v5 (zI h q11 ((v3 + (17 : Int32)) + ((2 : Int32) * v5)).toNatClampNeg) (zI h q15 ((v4 + (-1 : Int32)) - (1 : Int32)).toNatClampNeg) (zI h q19 (v4 + (-1 : Int32)).toNatClampNeg) (1 : Int32) h))))) else ob (zR h v0 16) fun q46 => ob (zR h v0 1) fun q48 => gd (decide (kd h q48 = 13)) <| gd (ix (((v3 + (17 : Int32)) + ((2 : Int32) * v5)) + (1 : Int32)) (zl h q48)) <| ob (F_X12_factOf v0 (zI h q11 ((v3 + (17 : Int32)) + ((2 : Int32) * v5)).toNatClampNeg) (zI h q48 (((v3 + (17 : Int32)) + ((2 : Int32) * v5)) + (1 : Int32)).toNatClampNeg) v1 h) fun r53 => gd (decide (kd h q46 = 13)) <| gd (ix v4 (zl h q46)) <| F_X12_holdsWish_b273 v0 v1 v2 v3 (v4 + (1 : Int32)) v5 (setI h q46 (v4).toNatClampNeg r53)))
set_option maxHeartbeats 4000000 in
set_option maxRecDepth 100000 in
theorem r_X12_holdsWish_l27 (v0 : Nat) (v1 : Int32) (v2 : Int32) (v3 : Int32) (v4 : Int32) (v5 : Int32) (h : Hp) {x : Cx} {o : ((Int32 × Int32 × Hp) ⊕ Hp)} (e : F_X12_holdsWish_l27 v0 v1 v2 v3 v4 v5 h = some o) (kI : ∀ z, o = .inl z → V M_X12_holdsWish x 3 27 [(0, .ref v0), (1, .int v1), (2, .int v2), (3, .int v3), (4, .int z.1), (5, .int z.2.1)] [] z.2.2 0 0) (kE279 : ∀ z : Hp, o = .inr z → V M_X12_holdsWish x 3 279 [(0, .ref v0)] [] z 0 0) : V M_X12_holdsWish x 3 27 [(0, .ref v0), (1, .int v1), (2, .int v2), (3, .int v3), (4, .int v4), (5, .int v5)] [] h 0 0 := by
  unfold F_X12_holdsWish_l27 at e
  refine V_iload (pc := 27) (i := 5) dX12_holdsWish_27 rfl ?_
  refine V_aload_n (pc := 29) (i := 0) dX12_holdsWish_29 rfl rfl ?_
  obtain ⟨g6, e⟩ := gd_some e
  obtain ⟨q7, g8, e⟩ := ob_some e
  refine V_getR (pc := 30) (ci := 11) (k := 1) (b := q7) dX12_holdsWish_30 fl_X12_13 rfl (of_decide_eq_true g6) g8 ?_
  refine V_iload_n (pc := 33) (i := 3) dX12_holdsWish_33 rfl rfl ?_
  refine V_iconst (pc := 34) (v := (2 : Int32)) dX12_holdsWish_34 (by decide) ?_
  refine V_iadd (pc := 35) dX12_holdsWish_35 ?_
  refine V_iconst (pc := 36) (v := (2 : Int32)) dX12_holdsWish_36 (by decide) ?_
  refine V_iload_n (pc := 37) (i := 2) dX12_holdsWish_37 rfl rfl ?_
  refine V_imul (pc := 38) dX12_holdsWish_38 ?_
  refine V_iadd (pc := 39) dX12_holdsWish_39 ?_
  obtain ⟨g9, e⟩ := gd_some e
  obtain ⟨g10, e⟩ := gd_some e
  refine V_iald (pc := 40) dX12_holdsWish_40 (of_decide_eq_true g9) (ix_in g10) ?_
  refine V_icmp_ge (pc := 41) (tgt := 279) dX12_holdsWish_41 (by decide) (fun c57 => ?_) (fun c57 => ?_)
  · rw [if_pos c57] at e
    cases e
    exact V_pick [0] rfl (kE279 h rfl)
  · rw [if_neg c57] at e
    refine V_pick [0, 1, 2, 3, 4, 5] rfl ?_
    refine V_aload_n (pc := 44) (i := 0) dX12_holdsWish_44 rfl rfl ?_
    obtain ⟨q11, g12, e⟩ := ob_some e
    refine V_getR (pc := 45) (ci := 11) (k := 1) (b := q11) dX12_holdsWish_45 fl_X12_13 rfl (of_decide_eq_true g6) g12 ?_
    refine V_iload_n (pc := 48) (i := 3) dX12_holdsWish_48 rfl rfl ?_
    refine V_bipush (pc := 49) (v := (17 : Int32)) dX12_holdsWish_49 (by decide) ?_
    refine V_iadd (pc := 51) dX12_holdsWish_51 ?_
    refine V_iconst (pc := 52) (v := (2 : Int32)) dX12_holdsWish_52 (by decide) ?_
    refine V_iload (pc := 53) (i := 5) dX12_holdsWish_53 rfl ?_
    refine V_imul (pc := 55) dX12_holdsWish_55 ?_
    refine V_iadd (pc := 56) dX12_holdsWish_56 ?_
    obtain ⟨g13, e⟩ := gd_some e
    obtain ⟨g14, e⟩ := gd_some e
    refine V_iald (pc := 57) dX12_holdsWish_57 (of_decide_eq_true g13) (ix_in g14) ?_
    refine V_istore (pc := 58) (i := 6) (lv' := [(6, .int (zI h q11 ((v3 + (17 : Int32)) + ((2 : Int32) * v5)).toNatClampNeg)), (0, .ref v0), (1, .int v1), (2, .int v2), (3, .int v3), (4, .int v4), (5, .int v5)]) dX12_holdsWish_58 (by decide) rfl ?_
    refine V_iload (pc := 60) (i := 6) dX12_holdsWish_60 rfl ?_
    refine V_bipush (pc := 62) (v := (9 : Int32)) dX12_holdsWish_62 (by decide) ?_
    refine V_icmp_gt (pc := 64) (tgt := 103) dX12_holdsWish_64 (by decide) (fun c56 => ?_) (fun c56 => ?_)
    · rw [if_pos c56] at e
      refine V_pick [1, 2, 3, 4, 5, 6, 0] rfl ?_
      refine V_iload (pc := 103) (i := 6) dX12_holdsWish_103 rfl ?_
      refine V_bipush (pc := 105) (v := (13 : Int32)) dX12_holdsWish_105 (by decide) ?_
      refine V_icmp_ne (pc := 107) (tgt := 133) dX12_holdsWish_107 (by decide) (fun c45 => ?_) (fun c45 => ?_)
      · rw [if_neg c45] at e
        refine V_pick [0, 1, 2, 3, 4, 5, 6] rfl ?_
        refine V_iinc (pc := 133) (i := 4) (u := v4 + (-1 : Int32)) (lv' := [(4, .int (v4 + (-1 : Int32))), (0, .ref v0), (1, .int v1), (2, .int v2), (3, .int v3), (5, .int v5), (6, .int (zI h q11 ((v3 + (17 : Int32)) + ((2 : Int32) * v5)).toNatClampNeg))]) dX12_holdsWish_133 rfl rfl (by decide) rfl ?_
        refine V_aload_n (pc := 136) (i := 0) dX12_holdsWish_136 rfl rfl ?_
        obtain ⟨q15, g16, e⟩ := ob_some e
        refine V_getR (pc := 137) (ci := 11) (k := 16) (b := q15) dX12_holdsWish_137 fl_X12_39 rfl (of_decide_eq_true g6) g16 ?_
        refine V_iload (pc := 140) (i := 4) dX12_holdsWish_140 rfl ?_
        refine V_iconst (pc := 142) (v := (1 : Int32)) dX12_holdsWish_142 (by decide) ?_
        refine V_isub (pc := 143) dX12_holdsWish_143 ?_
        obtain ⟨g17, e⟩ := gd_some e
        obtain ⟨g18, e⟩ := gd_some e
        refine V_iald (pc := 144) dX12_holdsWish_144 (of_decide_eq_true g17) (ix_in g18) ?_
        refine V_istore (pc := 145) (i := 7) (lv' := [(7, .int (zI h q15 ((v4 + (-1 : Int32)) - (1 : Int32)).toNatClampNeg)), (4, .int (v4 + (-1 : Int32))), (0, .ref v0), (1, .int v1), (2, .int v2), (3, .int v3), (5, .int v5), (6, .int (zI h q11 ((v3 + (17 : Int32)) + ((2 : Int32) * v5)).toNatClampNeg))]) dX12_holdsWish_145 (by decide) rfl ?_
        refine V_aload_n (pc := 147) (i := 0) dX12_holdsWish_147 rfl rfl ?_
        obtain ⟨q19, g20, e⟩ := ob_some e
        refine V_getR (pc := 148) (ci := 11) (k := 16) (b := q19) dX12_holdsWish_148 fl_X12_39 rfl (of_decide_eq_true g6) g20 ?_
        refine V_iload (pc := 151) (i := 4) dX12_holdsWish_151 rfl ?_
        obtain ⟨g21, e⟩ := gd_some e
        obtain ⟨g22, e⟩ := gd_some e
        refine V_iald (pc := 153) dX12_holdsWish_153 (of_decide_eq_true g21) (ix_in g22) ?_
        refine V_istore (pc := 154) (i := 8) (lv' := [(8, .int (zI h q19 (v4 + (-1 : Int32)).toNatClampNeg)), (7, .int (zI h q15 ((v4 + (-1 : Int32)) - (1 : Int32)).toNatClampNeg)), (4, .int (v4 + (-1 : Int32))), (0, .ref v0), (1, .int v1), (2, .int v2), (3, .int v3), (5, .int v5), (6, .int (zI h q11 ((v3 + (17 : Int32)) + ((2 : Int32) * v5)).toNatClampNeg))]) dX12_holdsWish_154 (by decide) rfl ?_
        refine V_iload (pc := 156) (i := 6) dX12_holdsWish_156 rfl ?_
        refine V_bipush (pc := 158) (v := (11 : Int32)) dX12_holdsWish_158 (by decide) ?_
        refine V_icmp_ne (pc := 160) (tgt := 178) dX12_holdsWish_160 (by decide) (fun c36 => ?_) (fun c36 => ?_)
        · rw [if_neg c36] at e
          refine V_pick [3, 4, 5, 6, 2, 7, 8, 1, 0] rfl ?_
          refine V_iload (pc := 178) (i := 6) dX12_holdsWish_178 rfl ?_
          refine V_bipush (pc := 180) (v := (12 : Int32)) dX12_holdsWish_180 (by decide) ?_
          refine V_icmp_ne (pc := 182) (tgt := 200) dX12_holdsWish_182 (by decide) (fun c34 => ?_) (fun c34 => ?_)
          · rw [if_neg c34] at e
            refine V_pick [0, 1, 2, 3, 4, 5, 6, 7, 8] rfl ?_
            refine V_iload (pc := 200) (i := 6) dX12_holdsWish_200 rfl ?_
            refine V_bipush (pc := 202) (v := (14 : Int32)) dX12_holdsWish_202 (by decide) ?_
            refine V_icmp_ne (pc := 204) (tgt := 224) dX12_holdsWish_204 (by decide) (fun c32 => ?_) (fun c32 => ?_)
            · rw [if_neg c32] at e
              refine V_pick [0, 1, 2, 3, 4, 5, 6, 7, 8] rfl ?_
              refine V_iload (pc := 224) (i := 7) dX12_holdsWish_224 rfl ?_
              refine V_iload (pc := 226) (i := 8) dX12_holdsWish_226 rfl ?_
              refine V_iadd (pc := 228) dX12_holdsWish_228 ?_
              refine V_if_le (pc := 229) (tgt := 236) dX12_holdsWish_229 (by decide) (fun c30 => ?_) (fun c30 => ?_)
              · rw [if_pos c30] at e
                refine V_pick [0, 1, 2, 3, 4, 5, 6, 7, 8] rfl ?_
                refine V_iconst (pc := 236) (v := (0 : Int32)) dX12_holdsWish_236 (by decide) ?_
                exact V_pick [0, 1, 2, 3, 4, 5, 6, 7, 8] rfl (r_X12_holdsWish_b237 v0 v1 v2 v3 (v4 + (-1 : Int32)) v5 (zI h q11 ((v3 + (17 : Int32)) + ((2 : Int32) * v5)).toNatClampNeg) (zI h q15 ((v4 + (-1 : Int32)) - (1 : Int32)).toNatClampNeg) (zI h q19 (v4 + (-1 : Int32)).toNatClampNeg) (0 : Int32) h e kI kE279)
              · rw [if_neg c30] at e
                refine V_pick [0, 1, 2, 3, 4, 5, 6, 7, 8] rfl ?_
                refine V_iconst (pc := 232) (v := (1 : Int32)) dX12_holdsWish_232 (by decide) ?_
                refine V_goto (pc := 233) (tgt := 237) dX12_holdsWish_233 (by decide) ?_
                exact V_pick [0, 1, 2, 3, 4, 5, 6, 7, 8] rfl (r_X12_holdsWish_b237 v0 v1 v2 v3 (v4 + (-1 : Int32)) v5 (zI h q11 ((v3 + (17 : Int32)) + ((2 : Int32) * v5)).toNatClampNeg) (zI h q15 ((v4 + (-1 : Int32)) - (1 : Int32)).toNatClampNeg) (zI h q19 (v4 + (-1 : Int32)).toNatClampNeg) (1 : Int32) h e kI kE279)
            · rw [if_pos c32] at e
              refine V_pick [0, 1, 2, 3, 4, 5, 6, 7, 8] rfl ?_
              refine V_iload (pc := 207) (i := 7) dX12_holdsWish_207 rfl ?_
              refine V_iload (pc := 209) (i := 8) dX12_holdsWish_209 rfl ?_
              refine V_iadd (pc := 211) dX12_holdsWish_211 ?_
              refine V_iconst (pc := 212) (v := (2 : Int32)) dX12_holdsWish_212 (by decide) ?_
              refine V_icmp_ne (pc := 213) (tgt := 220) dX12_holdsWish_213 (by decide) (fun c31 => ?_) (fun c31 => ?_)
              · rw [if_neg c31] at e
                refine V_pick [0, 1, 2, 3, 4, 5, 6, 7, 8] rfl ?_
                refine V_iconst (pc := 220) (v := (0 : Int32)) dX12_holdsWish_220 (by decide) ?_
                refine V_goto (pc := 221) (tgt := 237) dX12_holdsWish_221 (by decide) ?_
                exact V_pick [0, 1, 2, 3, 4, 5, 6, 7, 8] rfl (r_X12_holdsWish_b237 v0 v1 v2 v3 (v4 + (-1 : Int32)) v5 (zI h q11 ((v3 + (17 : Int32)) + ((2 : Int32) * v5)).toNatClampNeg) (zI h q15 ((v4 + (-1 : Int32)) - (1 : Int32)).toNatClampNeg) (zI h q19 (v4 + (-1 : Int32)).toNatClampNeg) (0 : Int32) h e kI kE279)
              · rw [if_pos c31] at e
                refine V_pick [0, 1, 2, 3, 4, 5, 6, 7, 8] rfl ?_
                refine V_iconst (pc := 216) (v := (1 : Int32)) dX12_holdsWish_216 (by decide) ?_
                refine V_goto (pc := 217) (tgt := 237) dX12_holdsWish_217 (by decide) ?_
                exact V_pick [0, 1, 2, 3, 4, 5, 6, 7, 8] rfl (r_X12_holdsWish_b237 v0 v1 v2 v3 (v4 + (-1 : Int32)) v5 (zI h q11 ((v3 + (17 : Int32)) + ((2 : Int32) * v5)).toNatClampNeg) (zI h q15 ((v4 + (-1 : Int32)) - (1 : Int32)).toNatClampNeg) (zI h q19 (v4 + (-1 : Int32)).toNatClampNeg) (1 : Int32) h e kI kE279)
          · rw [if_pos c34] at e
            refine V_pick [0, 1, 2, 3, 4, 5, 6, 7, 8] rfl ?_
            refine V_iload (pc := 185) (i := 7) dX12_holdsWish_185 rfl ?_
            refine V_iload (pc := 187) (i := 8) dX12_holdsWish_187 rfl ?_
            refine V_icmp_le (pc := 189) (tgt := 196) dX12_holdsWish_189 (by decide) (fun c33 => ?_) (fun c33 => ?_)
            · rw [if_pos c33] at e
              refine V_pick [0, 1, 2, 3, 4, 5, 6, 7, 8] rfl ?_
              refine V_iconst (pc := 196) (v := (0 : Int32)) dX12_holdsWish_196 (by decide) ?_
              refine V_goto (pc := 197) (tgt := 237) dX12_holdsWish_197 (by decide) ?_
              exact V_pick [0, 1, 2, 3, 4, 5, 6, 7, 8] rfl (r_X12_holdsWish_b237 v0 v1 v2 v3 (v4 + (-1 : Int32)) v5 (zI h q11 ((v3 + (17 : Int32)) + ((2 : Int32) * v5)).toNatClampNeg) (zI h q15 ((v4 + (-1 : Int32)) - (1 : Int32)).toNatClampNeg) (zI h q19 (v4 + (-1 : Int32)).toNatClampNeg) (0 : Int32) h e kI kE279)
            · rw [if_neg c33] at e
              refine V_pick [0, 1, 2, 3, 4, 5, 6, 7, 8] rfl ?_
              refine V_iconst (pc := 192) (v := (1 : Int32)) dX12_holdsWish_192 (by decide) ?_
              refine V_goto (pc := 193) (tgt := 237) dX12_holdsWish_193 (by decide) ?_
              exact V_pick [0, 1, 2, 3, 4, 5, 6, 7, 8] rfl (r_X12_holdsWish_b237 v0 v1 v2 v3 (v4 + (-1 : Int32)) v5 (zI h q11 ((v3 + (17 : Int32)) + ((2 : Int32) * v5)).toNatClampNeg) (zI h q15 ((v4 + (-1 : Int32)) - (1 : Int32)).toNatClampNeg) (zI h q19 (v4 + (-1 : Int32)).toNatClampNeg) (1 : Int32) h e kI kE279)
        · rw [if_pos c36] at e
          refine V_pick [3, 4, 5, 6, 2, 7, 8, 1, 0] rfl ?_
          refine V_iload (pc := 163) (i := 7) dX12_holdsWish_163 rfl ?_
          refine V_iload (pc := 165) (i := 8) dX12_holdsWish_165 rfl ?_
          refine V_icmp_ge (pc := 167) (tgt := 174) dX12_holdsWish_167 (by decide) (fun c35 => ?_) (fun c35 => ?_)
          · rw [if_pos c35] at e
            refine V_pick [0, 1, 2, 3, 4, 5, 6, 7, 8] rfl ?_
            refine V_iconst (pc := 174) (v := (0 : Int32)) dX12_holdsWish_174 (by decide) ?_
            refine V_goto (pc := 175) (tgt := 237) dX12_holdsWish_175 (by decide) ?_
            exact V_pick [0, 1, 2, 3, 4, 5, 6, 7, 8] rfl (r_X12_holdsWish_b237 v0 v1 v2 v3 (v4 + (-1 : Int32)) v5 (zI h q11 ((v3 + (17 : Int32)) + ((2 : Int32) * v5)).toNatClampNeg) (zI h q15 ((v4 + (-1 : Int32)) - (1 : Int32)).toNatClampNeg) (zI h q19 (v4 + (-1 : Int32)).toNatClampNeg) (0 : Int32) h e kI kE279)
          · rw [if_neg c35] at e
            refine V_pick [0, 1, 2, 3, 4, 5, 6, 7, 8] rfl ?_
            refine V_iconst (pc := 170) (v := (1 : Int32)) dX12_holdsWish_170 (by decide) ?_
            refine V_goto (pc := 171) (tgt := 237) dX12_holdsWish_171 (by decide) ?_
            exact V_pick [0, 1, 2, 3, 4, 5, 6, 7, 8] rfl (r_X12_holdsWish_b237 v0 v1 v2 v3 (v4 + (-1 : Int32)) v5 (zI h q11 ((v3 + (17 : Int32)) + ((2 : Int32) * v5)).toNatClampNeg) (zI h q15 ((v4 + (-1 : Int32)) - (1 : Int32)).toNatClampNeg) (zI h q19 (v4 + (-1 : Int32)).toNatClampNeg) (1 : Int32) h e kI kE279)
      · rw [if_pos c45] at e
        refine V_pick [0, 1, 2, 3, 4, 5] rfl ?_
        refine V_aload_n (pc := 110) (i := 0) dX12_holdsWish_110 rfl rfl ?_
        obtain ⟨q37, g38, e⟩ := ob_some e
        refine V_getR (pc := 111) (ci := 11) (k := 16) (b := q37) dX12_holdsWish_111 fl_X12_39 rfl (of_decide_eq_true g6) g38 ?_
        refine V_iload (pc := 114) (i := 4) dX12_holdsWish_114 rfl ?_
        refine V_iconst (pc := 116) (v := (1 : Int32)) dX12_holdsWish_116 (by decide) ?_
        refine V_isub (pc := 117) dX12_holdsWish_117 ?_
        refine V_iconst (pc := 118) (v := (1 : Int32)) dX12_holdsWish_118 (by decide) ?_
        refine V_aload_n (pc := 119) (i := 0) dX12_holdsWish_119 rfl rfl ?_
        obtain ⟨q39, g40, e⟩ := ob_some e
        refine V_getR (pc := 120) (ci := 11) (k := 16) (b := q39) dX12_holdsWish_120 fl_X12_39 rfl (of_decide_eq_true g6) g40 ?_
        refine V_iload (pc := 123) (i := 4) dX12_holdsWish_123 rfl ?_
        refine V_iconst (pc := 125) (v := (1 : Int32)) dX12_holdsWish_125 (by decide) ?_
        refine V_isub (pc := 126) dX12_holdsWish_126 ?_
        obtain ⟨g41, e⟩ := gd_some e
        obtain ⟨g42, e⟩ := gd_some e
        refine V_iald (pc := 127) dX12_holdsWish_127 (of_decide_eq_true g41) (ix_in g42) ?_
        refine V_isub (pc := 128) dX12_holdsWish_128 ?_
        obtain ⟨g43, e⟩ := gd_some e
        obtain ⟨g44, e⟩ := gd_some e
        refine V_iast (pc := 129) dX12_holdsWish_129 (of_decide_eq_true g43) (ix_in g44) ?_
        refine V_goto (pc := 130) (tgt := 273) dX12_holdsWish_130 (by decide) ?_
        exact V_pick [0, 1, 2, 3, 4, 5] rfl (r_X12_holdsWish_b273 v0 v1 v2 v3 v4 v5 (setI h q37 (v4 - (1 : Int32)).toNatClampNeg ((1 : Int32) - (zI h q39 (v4 - (1 : Int32)).toNatClampNeg))) e kI kE279)
    · rw [if_neg c56] at e
      refine V_pick [1, 2, 3, 4, 5, 6, 0] rfl ?_
      refine V_aload_n (pc := 67) (i := 0) dX12_holdsWish_67 rfl rfl ?_
      obtain ⟨q46, g47, e⟩ := ob_some e
      refine V_getR (pc := 68) (ci := 11) (k := 16) (b := q46) dX12_holdsWish_68 fl_X12_39 rfl (of_decide_eq_true g6) g47 ?_
      refine V_iload (pc := 71) (i := 4) dX12_holdsWish_71 rfl ?_
      refine V_aload_n (pc := 73) (i := 0) dX12_holdsWish_73 rfl rfl ?_
      refine V_iload (pc := 74) (i := 6) dX12_holdsWish_74 rfl ?_
      refine V_aload_n (pc := 76) (i := 0) dX12_holdsWish_76 rfl rfl ?_
      obtain ⟨q48, g49, e⟩ := ob_some e
      refine V_getR (pc := 77) (ci := 11) (k := 1) (b := q48) dX12_holdsWish_77 fl_X12_13 rfl (of_decide_eq_true g6) g49 ?_
      refine V_iload_n (pc := 80) (i := 3) dX12_holdsWish_80 rfl rfl ?_
      refine V_bipush (pc := 81) (v := (17 : Int32)) dX12_holdsWish_81 (by decide) ?_
      refine V_iadd (pc := 83) dX12_holdsWish_83 ?_
      refine V_iconst (pc := 84) (v := (2 : Int32)) dX12_holdsWish_84 (by decide) ?_
      refine V_iload (pc := 85) (i := 5) dX12_holdsWish_85 rfl ?_
      refine V_imul (pc := 87) dX12_holdsWish_87 ?_
      refine V_iadd (pc := 88) dX12_holdsWish_88 ?_
      refine V_iconst (pc := 89) (v := (1 : Int32)) dX12_holdsWish_89 (by decide) ?_
      refine V_iadd (pc := 90) dX12_holdsWish_90 ?_
      obtain ⟨g50, e⟩ := gd_some e
      obtain ⟨g51, e⟩ := gd_some e
      refine V_iald (pc := 91) dX12_holdsWish_91 (of_decide_eq_true g50) (ix_in g51) ?_
      refine V_iload_n (pc := 92) (i := 1) dX12_holdsWish_92 rfl rfl ?_
      obtain ⟨r53, g52, e⟩ := ob_some e
      refine V_callV (pc := 93) (bc := 0) (bs := 0) (mc := 0) (ms := 0) (st := [.int v4, .ref q46]) (As := [.int (zI h q11 ((v3 + (17 : Int32)) + ((2 : Int32) * v5)).toNatClampNeg), .int (zI h q48 (((v3 + (17 : Int32)) + ((2 : Int32) * v5)) + (1 : Int32)).toNatClampNeg), .int v1]) (a := v0) (h' := h) (r := some (.int r53)) dX12_holdsWish_93 ml_X12_302 (ci := 11) rfl (of_decide_eq_true g6) rfl rfl (Nat.le_of_ble_eq_true rfl) (d' := 2) (by decide) (c_X12_factOf (l := x.2.1) v0 (zI h q11 ((v3 + (17 : Int32)) + ((2 : Int32) * v5)).toNatClampNeg) (zI h q48 (((v3 + (17 : Int32)) + ((2 : Int32) * v5)) + (1 : Int32)).toNatClampNeg) v1 h g52) ?_
      obtain ⟨g54, e⟩ := gd_some e
      obtain ⟨g55, e⟩ := gd_some e
      refine V_iast (pc := 96) dX12_holdsWish_96 (of_decide_eq_true g54) (ix_in g55) ?_
      refine V_iinc (pc := 97) (i := 4) (u := v4 + (1 : Int32)) (lv' := [(4, .int (v4 + (1 : Int32))), (0, .ref v0), (1, .int v1), (2, .int v2), (3, .int v3), (5, .int v5), (6, .int (zI h q11 ((v3 + (17 : Int32)) + ((2 : Int32) * v5)).toNatClampNeg))]) dX12_holdsWish_97 rfl rfl (by decide) rfl ?_
      refine V_goto (pc := 100) (tgt := 273) dX12_holdsWish_100 (by decide) ?_
      exact V_pick [1, 2, 3, 4, 0, 5] rfl (r_X12_holdsWish_b273 v0 v1 v2 v3 (v4 + (1 : Int32)) v5 (setI h q46 (v4).toNatClampNeg r53) e kI kE279)
set_option maxRecDepth 100000 in
def F_X12_holdsWish_b294 (t0 : Int32) (h : Hp) : Option (Int32 × Hp) :=
  gd (decide (t0 = 0 ∨ t0 = 1)) <| some (t0, h)
set_option maxHeartbeats 4000000 in
set_option maxRecDepth 100000 in
theorem r_X12_holdsWish_b294 (t0 : Int32) (h : Hp) {x : Cx} {r : Int32} {hz : Hp} (e : F_X12_holdsWish_b294 t0 h = some (r, hz)) (hF : Fin9 M_X12_holdsWish x (some .boolean) (some (.int r)) hz) : V M_X12_holdsWish x 3 294 [] [.int t0] h 0 0 := by
  unfold F_X12_holdsWish_b294 at e
  obtain ⟨g64, e⟩ := gd_some e
  cases e
  exact V_zret (pc := 294) dX12_holdsWish_294 (z01 (of_decide_eq_true g64)) hF
set_option maxRecDepth 100000 in
def F_X12_holdsWish_b0 (v0 : Nat) (v1 : Int32) (v2 : Int32) (h : Hp) : Option (Int32 × Hp) :=
  gd (decide (kd h v0 = 11)) <| ob (zR h v0 1) fun q2 => gd (decide (kd h q2 = 13)) <| gd (ix ((((147 : Int32) + ((817 : Int32) * v1)) + (1 : Int32)) + ((2 : Int32) * v2)) (zl h q2)) <| ob (iter (fun z : Int32 × Int32 × Hp => F_X12_holdsWish_l27 v0 v1 v2 ((147 : Int32) + ((817 : Int32) * v1)) z.1 z.2.1 z.2.2) FU ((0 : Int32), zI h q2 ((((147 : Int32) + ((817 : Int32) * v1)) + (1 : Int32)) + ((2 : Int32) * v2)).toNatClampNeg, h)) (fun h58 => gd (decide (kd h58 v0 = 11)) <| ob (zR h58 v0 16) fun q60 => gd (decide (kd h58 q60 = 13)) <| gd (ix (0 : Int32) (zl h58 q60)) <| (if (zI h58 q60 ((0 : Int32)).toNatClampNeg) = (1 : Int32) then F_X12_holdsWish_b294 (1 : Int32) h58 else F_X12_holdsWish_b294 (0 : Int32) h58))
set_option maxHeartbeats 4000000 in
set_option maxRecDepth 100000 in
theorem r_X12_holdsWish_b0 (v0 : Nat) (v1 : Int32) (v2 : Int32) (h : Hp) {x : Cx} {r : Int32} {hz : Hp} (e : F_X12_holdsWish_b0 v0 v1 v2 h = some (r, hz)) (hF : Fin9 M_X12_holdsWish x (some .boolean) (some (.int r)) hz) : V M_X12_holdsWish x 3 0 [(0, .ref v0), (1, .int v1), (2, .int v2)] [] h 0 0 := by
  unfold F_X12_holdsWish_b0 at e
  refine V_sipush (pc := 0) (v := (147 : Int32)) dX12_holdsWish_0 (by decide) ?_
  refine V_sipush (pc := 3) (v := (817 : Int32)) dX12_holdsWish_3 (by decide) ?_
  refine V_iload_n (pc := 6) (i := 1) dX12_holdsWish_6 rfl rfl ?_
  refine V_imul (pc := 7) dX12_holdsWish_7 ?_
  refine V_iadd (pc := 8) dX12_holdsWish_8 ?_
  refine V_istore_n (pc := 9) (i := 3) (lv' := [(3, .int ((147 : Int32) + ((817 : Int32) * v1))), (0, .ref v0), (1, .int v1), (2, .int v2)]) dX12_holdsWish_9 rfl (by decide) rfl ?_
  refine V_iconst (pc := 10) (v := (0 : Int32)) dX12_holdsWish_10 (by decide) ?_
  refine V_istore (pc := 11) (i := 4) (lv' := [(4, .int (0 : Int32)), (3, .int ((147 : Int32) + ((817 : Int32) * v1))), (0, .ref v0), (1, .int v1), (2, .int v2)]) dX12_holdsWish_11 (by decide) rfl ?_
  refine V_aload_n (pc := 13) (i := 0) dX12_holdsWish_13 rfl rfl ?_
  obtain ⟨g1, e⟩ := gd_some e
  obtain ⟨q2, g3, e⟩ := ob_some e
  refine V_getR (pc := 14) (ci := 11) (k := 1) (b := q2) dX12_holdsWish_14 fl_X12_13 rfl (of_decide_eq_true g1) g3 ?_
  refine V_iload_n (pc := 17) (i := 3) dX12_holdsWish_17 rfl rfl ?_
  refine V_iconst (pc := 18) (v := (1 : Int32)) dX12_holdsWish_18 (by decide) ?_
  refine V_iadd (pc := 19) dX12_holdsWish_19 ?_
  refine V_iconst (pc := 20) (v := (2 : Int32)) dX12_holdsWish_20 (by decide) ?_
  refine V_iload_n (pc := 21) (i := 2) dX12_holdsWish_21 rfl rfl ?_
  refine V_imul (pc := 22) dX12_holdsWish_22 ?_
  refine V_iadd (pc := 23) dX12_holdsWish_23 ?_
  obtain ⟨g4, e⟩ := gd_some e
  obtain ⟨g5, e⟩ := gd_some e
  refine V_iald (pc := 24) dX12_holdsWish_24 (of_decide_eq_true g4) (ix_in g5) ?_
  refine V_istore (pc := 25) (i := 5) (lv' := [(5, .int (zI h q2 ((((147 : Int32) + ((817 : Int32) * v1)) + (1 : Int32)) + ((2 : Int32) * v2)).toNatClampNeg)), (4, .int (0 : Int32)), (3, .int ((147 : Int32) + ((817 : Int32) * v1))), (0, .ref v0), (1, .int v1), (2, .int v2)]) dX12_holdsWish_25 (by decide) rfl ?_
  refine V_pick [3, 4, 5, 2, 1, 0] rfl ?_
  obtain ⟨y66, g67, e⟩ := ob_some e
  refine iter_V (P := fun z : Int32 × Int32 × Hp => V M_X12_holdsWish x 3 27 [(0, .ref v0), (1, .int v1), (2, .int v2), (3, .int ((147 : Int32) + ((817 : Int32) * v1))), (4, .int z.1), (5, .int z.2.1)] [] z.2.2 0 0) (E := fun z : Hp => V M_X12_holdsWish x 3 279 [(0, .ref v0)] [] z 0 0) (fun z o e9 k1 k2 => r_X12_holdsWish_l27 v0 v1 v2 ((147 : Int32) + ((817 : Int32) * v1)) z.1 z.2.1 z.2.2 e9 (fun z hz9 => k1 z hz9) (fun z hz9 => k2 _ hz9)) _ _ _ g67 ?_
  clear g67
  obtain ⟨h58, rfl⟩ : ∃ q, q = y66 := ⟨_, rfl⟩
  replace e : (gd (decide (kd h58 v0 = 11)) <| ob (zR h58 v0 16) fun q60 => gd (decide (kd h58 q60 = 13)) <| gd (ix (0 : Int32) (zl h58 q60)) <| (if (zI h58 q60 ((0 : Int32)).toNatClampNeg) = (1 : Int32) then F_X12_holdsWish_b294 (1 : Int32) h58 else F_X12_holdsWish_b294 (0 : Int32) h58)) = some (r, hz) := e
  show V M_X12_holdsWish x 3 279 [(0, .ref v0)] [] h58 0 0
  refine V_aload_n (pc := 279) (i := 0) dX12_holdsWish_279 rfl rfl ?_
  obtain ⟨g59, e⟩ := gd_some e
  obtain ⟨q60, g61, e⟩ := ob_some e
  refine V_getR (pc := 280) (ci := 11) (k := 16) (b := q60) dX12_holdsWish_280 fl_X12_39 rfl (of_decide_eq_true g59) g61 ?_
  refine V_iconst (pc := 283) (v := (0 : Int32)) dX12_holdsWish_283 (by decide) ?_
  obtain ⟨g62, e⟩ := gd_some e
  obtain ⟨g63, e⟩ := gd_some e
  refine V_iald (pc := 284) dX12_holdsWish_284 (of_decide_eq_true g62) (ix_in g63) ?_
  refine V_iconst (pc := 285) (v := (1 : Int32)) dX12_holdsWish_285 (by decide) ?_
  refine V_icmp_ne (pc := 286) (tgt := 293) dX12_holdsWish_286 (by decide) (fun c65 => ?_) (fun c65 => ?_)
  · rw [if_neg c65] at e
    refine V_pick [] rfl ?_
    refine V_iconst (pc := 293) (v := (0 : Int32)) dX12_holdsWish_293 (by decide) ?_
    exact V_pick [] rfl (r_X12_holdsWish_b294 (0 : Int32) h58 e hF)
  · rw [if_pos c65] at e
    refine V_pick [] rfl ?_
    refine V_iconst (pc := 289) (v := (1 : Int32)) dX12_holdsWish_289 (by decide) ?_
    refine V_goto (pc := 290) (tgt := 294) dX12_holdsWish_290 (by decide) ?_
    exact V_pick [] rfl (r_X12_holdsWish_b294 (1 : Int32) h58 e hF)
def F_X12_holdsWish (v0 : Nat) (v1 : Int32) (v2 : Int32) (h : Hp) : Option (Int32 × Hp) := F_X12_holdsWish_b0 v0 v1 v2 h
theorem c_X12_holdsWish {l : Launch} (v0 : Nat) (v1 : Int32) (v2 : Int32) (h : Hp) {r : Int32} {hz : Hp} (e : F_X12_holdsWish v0 v1 v2 h = some (r, hz)) : Ct l yX12_holdsWish M_X12_holdsWish (some .boolean) 3 [.ref v0, .int v1, .int v2] h 0 0 (some (.int r)) hz :=
  Ct_of rfl rfl (fun q => by cases q) (Nat.le_of_ble_eq_true rfl) (fun x _ hF => V_pick [0, 1, 2] rfl (r_X12_holdsWish_b0 v0 v1 v2 h e hF))
theorem dX12_metBy_0 : decode cX12_metBy 0 = .ok (.iconst 0, 1) := by decide +kernel
theorem dX12_metBy_1 : decode cX12_metBy 1 = .ok (.istore_n 2, 1) := by decide +kernel
theorem dX12_metBy_2 : decode cX12_metBy 2 = .ok (.iconst 0, 1) := by decide +kernel
theorem dX12_metBy_3 : decode cX12_metBy 3 = .ok (.istore_n 3, 1) := by decide +kernel
theorem dX12_metBy_4 : decode cX12_metBy 4 = .ok (.iload_n 3, 1) := by decide +kernel
theorem dX12_metBy_5 : decode cX12_metBy 5 = .ok (.aload_n 0, 1) := by decide +kernel
theorem dX12_metBy_6 : decode cX12_metBy 6 = .ok (.getfield 13, 3) := by decide +kernel
theorem dX12_metBy_9 : decode cX12_metBy 9 = .ok (.sipush 147, 3) := by decide +kernel
theorem dX12_metBy_12 : decode cX12_metBy 12 = .ok (.sipush 817, 3) := by decide +kernel
theorem dX12_metBy_15 : decode cX12_metBy 15 = .ok (.iload_n 1, 1) := by decide +kernel
theorem dX12_metBy_16 : decode cX12_metBy 16 = .ok (.imul, 1) := by decide +kernel
theorem dX12_metBy_17 : decode cX12_metBy 17 = .ok (.iadd, 1) := by decide +kernel
theorem dX12_metBy_18 : decode cX12_metBy 18 = .ok (.iaload, 1) := by decide +kernel
theorem dX12_metBy_19 : decode cX12_metBy 19 = .ok (.if_icmp .ge 26, 3) := by decide +kernel
theorem dX12_metBy_22 : decode cX12_metBy 22 = .ok (.iload_n 2, 1) := by decide +kernel
theorem dX12_metBy_23 : decode cX12_metBy 23 = .ok (.aload_n 0, 1) := by decide +kernel
theorem dX12_metBy_24 : decode cX12_metBy 24 = .ok (.iload_n 1, 1) := by decide +kernel
theorem dX12_metBy_25 : decode cX12_metBy 25 = .ok (.iload_n 3, 1) := by decide +kernel
theorem dX12_metBy_26 : decode cX12_metBy 26 = .ok (.invokevirtual 306, 3) := by decide +kernel
theorem dX12_metBy_29 : decode cX12_metBy 29 = .ok (.ifCond .eq 7, 3) := by decide +kernel
theorem dX12_metBy_32 : decode cX12_metBy 32 = .ok (.iconst 1, 1) := by decide +kernel
theorem dX12_metBy_33 : decode cX12_metBy 33 = .ok (.goto 4, 3) := by decide +kernel
theorem dX12_metBy_36 : decode cX12_metBy 36 = .ok (.iconst 0, 1) := by decide +kernel
theorem dX12_metBy_37 : decode cX12_metBy 37 = .ok (.iadd, 1) := by decide +kernel
theorem dX12_metBy_38 : decode cX12_metBy 38 = .ok (.istore_n 2, 1) := by decide +kernel
theorem dX12_metBy_39 : decode cX12_metBy 39 = .ok (.iinc 3 1, 3) := by decide +kernel
theorem dX12_metBy_42 : decode cX12_metBy 42 = .ok (.goto (-38), 3) := by decide +kernel
theorem dX12_metBy_45 : decode cX12_metBy 45 = .ok (.iload_n 2, 1) := by decide +kernel
theorem dX12_metBy_46 : decode cX12_metBy 46 = .ok (.ireturn, 1) := by decide +kernel
set_option maxRecDepth 100000 in
def F_X12_metBy_b37 (v0 : Nat) (v1 : Int32) (v3 : Int32) (t0 : Int32) (t1 : Int32) (h : Hp) : Option ((Int32 × Int32 × Hp) ⊕ (Int32 × Hp)) :=
  some (.inl (t0 + t1, v3 + (1 : Int32), h))
set_option maxHeartbeats 4000000 in
set_option maxRecDepth 100000 in
theorem r_X12_metBy_b37 (v0 : Nat) (v1 : Int32) (v3 : Int32) (t0 : Int32) (t1 : Int32) (h : Hp) {x : Cx} {o : ((Int32 × Int32 × Hp) ⊕ (Int32 × Hp))} (e : F_X12_metBy_b37 v0 v1 v3 t0 t1 h = some o) (kI : ∀ z, o = .inl z → V M_X12_metBy x 4 4 [(0, .ref v0), (1, .int v1), (2, .int z.1), (3, .int z.2.1)] [] z.2.2 0 0) (kE45 : ∀ z : Int32 × Hp, o = .inr z → V M_X12_metBy x 4 45 [(2, .int z.1)] [] z.2 0 0) : V M_X12_metBy x 4 37 [(0, .ref v0), (1, .int v1), (3, .int v3)] [.int t1, .int t0] h 0 0 := by
  unfold F_X12_metBy_b37 at e
  refine V_iadd (pc := 37) dX12_metBy_37 ?_
  refine V_istore_n (pc := 38) (i := 2) (lv' := [(2, .int (t0 + t1)), (0, .ref v0), (1, .int v1), (3, .int v3)]) dX12_metBy_38 rfl (by decide) rfl ?_
  refine V_iinc (pc := 39) (i := 3) (u := v3 + (1 : Int32)) (lv' := [(3, .int (v3 + (1 : Int32))), (2, .int (t0 + t1)), (0, .ref v0), (1, .int v1)]) dX12_metBy_39 rfl rfl (by decide) rfl ?_
  refine V_goto (pc := 42) (tgt := 4) dX12_metBy_42 (by decide) ?_
  cases e
  exact V_pick [2, 3, 1, 0] rfl (kI (t0 + t1, v3 + (1 : Int32), h) rfl)
set_option maxRecDepth 100000 in
def F_X12_metBy_l4 (v0 : Nat) (v1 : Int32) (v2 : Int32) (v3 : Int32) (h : Hp) : Option ((Int32 × Int32 × Hp) ⊕ (Int32 × Hp)) :=
  gd (decide (kd h v0 = 11)) <| ob (zR h v0 1) fun q2 => gd (decide (kd h q2 = 13)) <| gd (ix ((147 : Int32) + ((817 : Int32) * v1)) (zl h q2)) <| (if (zI h q2 ((147 : Int32) + ((817 : Int32) * v1)).toNatClampNeg) ≤ v3 then some (.inr (v2, h)) else ob2 (F_X12_holdsWish v0 v1 v3 h) fun r7 h8 => (if r7 = 0 then F_X12_metBy_b37 v0 v1 v3 v2 (0 : Int32) h8 else F_X12_metBy_b37 v0 v1 v3 v2 (1 : Int32) h8))
set_option maxHeartbeats 4000000 in
set_option maxRecDepth 100000 in
theorem r_X12_metBy_l4 (v0 : Nat) (v1 : Int32) (v2 : Int32) (v3 : Int32) (h : Hp) {x : Cx} {o : ((Int32 × Int32 × Hp) ⊕ (Int32 × Hp))} (e : F_X12_metBy_l4 v0 v1 v2 v3 h = some o) (kI : ∀ z, o = .inl z → V M_X12_metBy x 4 4 [(0, .ref v0), (1, .int v1), (2, .int z.1), (3, .int z.2.1)] [] z.2.2 0 0) (kE45 : ∀ z : Int32 × Hp, o = .inr z → V M_X12_metBy x 4 45 [(2, .int z.1)] [] z.2 0 0) : V M_X12_metBy x 4 4 [(0, .ref v0), (1, .int v1), (2, .int v2), (3, .int v3)] [] h 0 0 := by
  unfold F_X12_metBy_l4 at e
  refine V_iload_n (pc := 4) (i := 3) dX12_metBy_4 rfl rfl ?_
  refine V_aload_n (pc := 5) (i := 0) dX12_metBy_5 rfl rfl ?_
  obtain ⟨g1, e⟩ := gd_some e
  obtain ⟨q2, g3, e⟩ := ob_some e
  refine V_getR (pc := 6) (ci := 11) (k := 1) (b := q2) dX12_metBy_6 fl_X12_13 rfl (of_decide_eq_true g1) g3 ?_
  refine V_sipush (pc := 9) (v := (147 : Int32)) dX12_metBy_9 (by decide) ?_
  refine V_sipush (pc := 12) (v := (817 : Int32)) dX12_metBy_12 (by decide) ?_
  refine V_iload_n (pc := 15) (i := 1) dX12_metBy_15 rfl rfl ?_
  refine V_imul (pc := 16) dX12_metBy_16 ?_
  refine V_iadd (pc := 17) dX12_metBy_17 ?_
  obtain ⟨g4, e⟩ := gd_some e
  obtain ⟨g5, e⟩ := gd_some e
  refine V_iald (pc := 18) dX12_metBy_18 (of_decide_eq_true g4) (ix_in g5) ?_
  refine V_icmp_ge (pc := 19) (tgt := 45) dX12_metBy_19 (by decide) (fun c10 => ?_) (fun c10 => ?_)
  · rw [if_pos c10] at e
    cases e
    exact V_pick [2] rfl (kE45 (v2, h) rfl)
  · rw [if_neg c10] at e
    refine V_pick [0, 1, 2, 3] rfl ?_
    refine V_iload_n (pc := 22) (i := 2) dX12_metBy_22 rfl rfl ?_
    refine V_aload_n (pc := 23) (i := 0) dX12_metBy_23 rfl rfl ?_
    refine V_iload_n (pc := 24) (i := 1) dX12_metBy_24 rfl rfl ?_
    refine V_iload_n (pc := 25) (i := 3) dX12_metBy_25 rfl rfl ?_
    obtain ⟨r7, h8, g6, e⟩ := ob2_some e
    refine V_callV (pc := 26) (bc := 0) (bs := 0) (mc := 0) (ms := 0) (st := [.int v2]) (As := [.int v1, .int v3]) (a := v0) (h' := h8) (r := some (.int r7)) dX12_metBy_26 ml_X12_306 (ci := 11) rfl (of_decide_eq_true g1) rfl rfl (Nat.le_of_ble_eq_true rfl) (d' := 3) (by decide) (c_X12_holdsWish (l := x.2.1) v0 v1 v3 h g6) ?_
    refine V_if_eq (pc := 29) (tgt := 36) dX12_metBy_29 (by decide) (fun c9 => ?_) (fun c9 => ?_)
    · rw [if_pos c9] at e
      refine V_pick [0, 1, 3] rfl ?_
      refine V_iconst (pc := 36) (v := (0 : Int32)) dX12_metBy_36 (by decide) ?_
      exact V_pick [0, 1, 2] rfl (r_X12_metBy_b37 v0 v1 v3 v2 (0 : Int32) h8 e kI kE45)
    · rw [if_neg c9] at e
      refine V_pick [0, 1, 3] rfl ?_
      refine V_iconst (pc := 32) (v := (1 : Int32)) dX12_metBy_32 (by decide) ?_
      refine V_goto (pc := 33) (tgt := 37) dX12_metBy_33 (by decide) ?_
      exact V_pick [0, 1, 2] rfl (r_X12_metBy_b37 v0 v1 v3 v2 (1 : Int32) h8 e kI kE45)
set_option maxRecDepth 100000 in
def F_X12_metBy_b0 (v0 : Nat) (v1 : Int32) (h : Hp) : Option (Int32 × Hp) :=
  ob (iter (fun z : Int32 × Int32 × Hp => F_X12_metBy_l4 v0 v1 z.1 z.2.1 z.2.2) FU ((0 : Int32), (0 : Int32), h)) (fun z => un2 z fun w11 h12 => some (w11, h12))
set_option maxHeartbeats 4000000 in
set_option maxRecDepth 100000 in
theorem r_X12_metBy_b0 (v0 : Nat) (v1 : Int32) (h : Hp) {x : Cx} {r : Int32} {hz : Hp} (e : F_X12_metBy_b0 v0 v1 h = some (r, hz)) (hF : Fin9 M_X12_metBy x (some .int) (some (.int r)) hz) : V M_X12_metBy x 4 0 [(0, .ref v0), (1, .int v1)] [] h 0 0 := by
  unfold F_X12_metBy_b0 at e
  refine V_iconst (pc := 0) (v := (0 : Int32)) dX12_metBy_0 (by decide) ?_
  refine V_istore_n (pc := 1) (i := 2) (lv' := [(2, .int (0 : Int32)), (0, .ref v0), (1, .int v1)]) dX12_metBy_1 rfl (by decide) rfl ?_
  refine V_iconst (pc := 2) (v := (0 : Int32)) dX12_metBy_2 (by decide) ?_
  refine V_istore_n (pc := 3) (i := 3) (lv' := [(3, .int (0 : Int32)), (2, .int (0 : Int32)), (0, .ref v0), (1, .int v1)]) dX12_metBy_3 rfl (by decide) rfl ?_
  refine V_pick [2, 3, 1, 0] rfl ?_
  obtain ⟨y13, g14, e⟩ := ob_some e
  refine iter_V (P := fun z : Int32 × Int32 × Hp => V M_X12_metBy x 4 4 [(0, .ref v0), (1, .int v1), (2, .int z.1), (3, .int z.2.1)] [] z.2.2 0 0) (E := fun z : Int32 × Hp => V M_X12_metBy x 4 45 [(2, .int z.1)] [] z.2 0 0) (fun z o e9 k1 k2 => r_X12_metBy_l4 v0 v1 z.1 z.2.1 z.2.2 e9 (fun z hz9 => k1 z hz9) (fun z hz9 => k2 _ hz9)) _ _ _ g14 ?_
  clear g14
  obtain ⟨w11, h12⟩ := y13
  replace e : (some (w11, h12)) = some (r, hz) := e
  show V M_X12_metBy x 4 45 [(2, .int w11)] [] h12 0 0
  refine V_iload_n (pc := 45) (i := 2) dX12_metBy_45 rfl rfl ?_
  cases e
  exact V_iret (pc := 46) dX12_metBy_46 hF
def F_X12_metBy (v0 : Nat) (v1 : Int32) (h : Hp) : Option (Int32 × Hp) := F_X12_metBy_b0 v0 v1 h
theorem c_X12_metBy {l : Launch} (v0 : Nat) (v1 : Int32) (h : Hp) {r : Int32} {hz : Hp} (e : F_X12_metBy v0 v1 h = some (r, hz)) : Ct l yX12_metBy M_X12_metBy (some .int) 4 [.ref v0, .int v1] h 0 0 (some (.int r)) hz :=
  Ct_of rfl rfl (fun q => by cases q) (Nat.le_of_ble_eq_true rfl) (fun x _ hF => V_pick [0, 1] rfl (r_X12_metBy_b0 v0 v1 h e hF))
