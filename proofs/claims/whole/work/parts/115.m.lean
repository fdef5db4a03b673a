theorem dX2_metByAll_0 : decode cX2_metByAll 0 = .ok (.iconst 0, 1) := by decide +kernel
theorem dX2_metByAll_1 : decode cX2_metByAll 1 = .ok (.istore_n 2, 1) := by decide +kernel
theorem dX2_metByAll_2 : decode cX2_metByAll 2 = .ok (.iconst 0, 1) := by decide +kernel
theorem dX2_metByAll_3 : decode cX2_metByAll 3 = .ok (.istore_n 3, 1) := by decide +kernel
theorem dX2_metByAll_4 : decode cX2_metByAll 4 = .ok (.iload_n 3, 1) := by decide +kernel
theorem dX2_metByAll_5 : decode cX2_metByAll 5 = .ok (.aload_n 0, 1) := by decide +kernel
theorem dX2_metByAll_6 : decode cX2_metByAll 6 = .ok (.getfield 28, 3) := by decide +kernel
theorem dX2_metByAll_9 : decode cX2_metByAll 9 = .ok (.if_icmp .ge 24, 3) := by decide +kernel
theorem dX2_metByAll_12 : decode cX2_metByAll 12 = .ok (.iload_n 2, 1) := by decide +kernel
theorem dX2_metByAll_13 : decode cX2_metByAll 13 = .ok (.aload_n 0, 1) := by decide +kernel
theorem dX2_metByAll_14 : decode cX2_metByAll 14 = .ok (.getfield 39, 3) := by decide +kernel
theorem dX2_metByAll_17 : decode cX2_metByAll 17 = .ok (.iload_n 3, 1) := by decide +kernel
theorem dX2_metByAll_18 : decode cX2_metByAll 18 = .ok (.aaload, 1) := by decide +kernel
theorem dX2_metByAll_19 : decode cX2_metByAll 19 = .ok (.aload_n 0, 1) := by decide +kernel
theorem dX2_metByAll_20 : decode cX2_metByAll 20 = .ok (.iload_n 3, 1) := by decide +kernel
theorem dX2_metByAll_21 : decode cX2_metByAll 21 = .ok (.aload_n 1, 1) := by decide +kernel
theorem dX2_metByAll_22 : decode cX2_metByAll 22 = .ok (.invokevirtual 113, 3) := by decide +kernel
theorem dX2_metByAll_25 : decode cX2_metByAll 25 = .ok (.iadd, 1) := by decide +kernel
theorem dX2_metByAll_26 : decode cX2_metByAll 26 = .ok (.istore_n 2, 1) := by decide +kernel
theorem dX2_metByAll_27 : decode cX2_metByAll 27 = .ok (.iinc 3 1, 3) := by decide +kernel
theorem dX2_metByAll_30 : decode cX2_metByAll 30 = .ok (.goto (-26), 3) := by decide +kernel
theorem dX2_metByAll_33 : decode cX2_metByAll 33 = .ok (.iload_n 2, 1) := by decide +kernel
theorem dX2_metByAll_34 : decode cX2_metByAll 34 = .ok (.ireturn, 1) := by decide +kernel
set_option maxRecDepth 100000 in
def F_X2_metByAll_l4 (v0 : Nat) (v1 : Nat) (v2 : Int32) (v3 : Int32) (h : Hp) : Option ((Int32 × Int32 × Hp) ⊕ (Int32 × Hp)) :=
  gd (decide (kd h v0 = 2)) <| (if (zI h v0 5) ≤ v3 then some (.inr (v2, h)) else ob (zR h v0 8) fun q2 => gd (decide (kd h q2 = 15)) <| gd (ix v3 (zl h q2)) <| ob (zR h q2 (v3).toNatClampNeg) fun q6 => ob2 (F_X10_holding q6 v0 v3 v1 h) fun r9 h10 => gd (decide (kd h q6 = 9)) <| some (.inl (v2 + r9, v3 + (1 : Int32), h10)))
set_option maxHeartbeats 4000000 in
set_option maxRecDepth 100000 in
theorem r_X2_metByAll_l4 (v0 : Nat) (v1 : Nat) (v2 : Int32) (v3 : Int32) (h : Hp) {x : Cx} {o : ((Int32 × Int32 × Hp) ⊕ (Int32 × Hp))} (e : F_X2_metByAll_l4 v0 v1 v2 v3 h = some o) (kI : ∀ z, o = .inl z → V M_X2_metByAll x 4 4 [(0, .ref v0), (1, .ref v1), (2, .int z.1), (3, .int z.2.1)] [] z.2.2 0 0) (kE33 : ∀ z : Int32 × Hp, o = .inr z → V M_X2_metByAll x 4 33 [(2, .int z.1)] [] z.2 0 0) : V M_X2_metByAll x 4 4 [(0, .ref v0), (1, .ref v1), (2, .int v2), (3, .int v3)] [] h 0 0 := by
  unfold F_X2_metByAll_l4 at e
  refine V_iload_n (pc := 4) (i := 3) dX2_metByAll_4 rfl rfl ?_
  refine V_aload_n (pc := 5) (i := 0) dX2_metByAll_5 rfl rfl ?_
  obtain ⟨g1, e⟩ := gd_some e
  refine V_getI (pc := 6) (ci := 2) (k := 5) dX2_metByAll_6 fl_X2_28 rfl (of_decide_eq_true g1) ?_
  refine V_icmp_ge (pc := 9) (tgt := 33) dX2_metByAll_9 (by decide) (fun c12 => ?_) (fun c12 => ?_)
  · rw [if_pos c12] at e
    cases e
    exact V_pick [2] rfl (kE33 _ rfl)
  · rw [if_neg c12] at e
    refine V_pick [0, 1, 2, 3] rfl ?_
    refine V_iload_n (pc := 12) (i := 2) dX2_metByAll_12 rfl rfl ?_
    refine V_aload_n (pc := 13) (i := 0) dX2_metByAll_13 rfl rfl ?_
    obtain ⟨q2, g3, e⟩ := ob_some e
    refine V_getR (pc := 14) (ci := 2) (k := 8) (b := q2) dX2_metByAll_14 fl_X2_39 rfl (of_decide_eq_true g1) g3 ?_
    refine V_iload_n (pc := 17) (i := 3) dX2_metByAll_17 rfl rfl ?_
    obtain ⟨g4, e⟩ := gd_some e
    obtain ⟨g5, e⟩ := gd_some e
    obtain ⟨q6, g7, e⟩ := ob_some e
    refine V_aald (pc := 18) (b := q6) dX2_metByAll_18 (of_decide_eq_true g4) (ix_in g5) g7 ?_
    refine V_aload_n (pc := 19) (i := 0) dX2_metByAll_19 rfl rfl ?_
    refine V_iload_n (pc := 20) (i := 3) dX2_metByAll_20 rfl rfl ?_
    refine V_aload_n (pc := 21) (i := 1) dX2_metByAll_21 rfl rfl ?_
    obtain ⟨r9, h10, g8, e⟩ := ob2_some e
    obtain ⟨g11, e⟩ := gd_some e
    refine V_callV (pc := 22) (bc := 0) (bs := 0) (mc := 0) (ms := 0) (st := [.int v2]) (As := [.ref v0, .int v3, .ref v1]) (a := q6) (h' := h10) (r := some (.int r9)) dX2_metByAll_22 ml_X2_113 (ci := 9) rfl (of_decide_eq_true g11) rfl rfl (Nat.le_of_ble_eq_true rfl) (d' := 3) (by decide) (c_X10_holding (l := x.2.1) q6 v0 v3 v1 h g8) ?_
    refine V_iadd (pc := 25) dX2_metByAll_25 ?_
    refine V_istore_n (pc := 26) (i := 2) (lv' := [(2, .int (v2 + r9)), (0, .ref v0), (1, .ref v1), (3, .int v3)]) dX2_metByAll_26 rfl (by decide) rfl ?_
    refine V_iinc (pc := 27) (i := 3) (u := v3 + (1 : Int32)) (lv' := [(3, .int (v3 + (1 : Int32))), (2, .int (v2 + r9)), (0, .ref v0), (1, .ref v1)]) dX2_metByAll_27 rfl rfl (by decide) rfl ?_
    refine V_goto (pc := 30) (tgt := 4) dX2_metByAll_30 (by decide) ?_
    cases e
    exact V_pick [2, 3, 1, 0] rfl (kI _ rfl)
set_option maxRecDepth 100000 in
def F_X2_metByAll_b0 (v0 : Nat) (v1 : Nat) (h : Hp) : Option (Int32 × Hp) :=
  ob (iter (fun z : Int32 × Int32 × Hp => F_X2_metByAll_l4 v0 v1 z.1 z.2.1 z.2.2) FU ((0 : Int32), (0 : Int32), h)) (fun z => un2 z fun w13 h14 => some (w13, h14))
set_option maxHeartbeats 4000000 in
set_option maxRecDepth 100000 in
theorem r_X2_metByAll_b0 (v0 : Nat) (v1 : Nat) (h : Hp) {x : Cx} {r : Int32} {hz : Hp} (e : F_X2_metByAll_b0 v0 v1 h = some (r, hz)) (hF : Fin9 M_X2_metByAll x (some .int) (some (.int r)) hz) : V M_X2_metByAll x 4 0 [(0, .ref v0), (1, .ref v1)] [] h 0 0 := by
  unfold F_X2_metByAll_b0 at e
  refine V_iconst (pc := 0) (v := (0 : Int32)) dX2_metByAll_0 (by decide) ?_
  refine V_istore_n (pc := 1) (i := 2) (lv' := [(2, .int (0 : Int32)), (0, .ref v0), (1, .ref v1)]) dX2_metByAll_1 rfl (by decide) rfl ?_
  refine V_iconst (pc := 2) (v := (0 : Int32)) dX2_metByAll_2 (by decide) ?_
  refine V_istore_n (pc := 3) (i := 3) (lv' := [(3, .int (0 : Int32)), (2, .int (0 : Int32)), (0, .ref v0), (1, .ref v1)]) dX2_metByAll_3 rfl (by decide) rfl ?_
  refine V_pick [2, 3, 1, 0] rfl ?_
  obtain ⟨y15, g16, e⟩ := ob_some e
  refine iter_V (P := fun z : Int32 × Int32 × Hp => V M_X2_metByAll x 4 4 [(0, .ref v0), (1, .ref v1), (2, .int z.1), (3, .int z.2.1)] [] z.2.2 0 0) (E := fun z : Int32 × Hp => V M_X2_metByAll x 4 33 [(2, .int z.1)] [] z.2 0 0) (fun z o e9 k1 k2 => r_X2_metByAll_l4 v0 v1 z.1 z.2.1 z.2.2 e9 (fun z hz9 => k1 z hz9) (fun z hz9 => k2 _ hz9)) _ _ _ g16 ?_
  clear g16
  obtain ⟨w13, h14⟩ := y15
  replace e : (some (w13, h14)) = some (r, hz) := e
  show V M_X2_metByAll x 4 33 [(2, .int w13)] [] h14 0 0
  refine V_iload_n (pc := 33) (i := 2) dX2_metByAll_33 rfl rfl ?_
  cases e
  exact V_iret (pc := 34) dX2_metByAll_34 hF
def F_X2_metByAll (v0 : Nat) (v1 : Nat) (h : Hp) : Option (Int32 × Hp) := F_X2_metByAll_b0 v0 v1 h
theorem c_X2_metByAll {l : Launch} (v0 : Nat) (v1 : Nat) (h : Hp) {r : Int32} {hz : Hp} (e : F_X2_metByAll v0 v1 h = some (r, hz)) : Ct l yX2_metByAll M_X2_metByAll (some .int) 4 [.ref v0, .ref v1] h 0 0 (some (.int r)) hz :=
  Ct_of rfl rfl (fun q => by cases q) (Nat.le_of_ble_eq_true rfl) (fun x _ hF => V_pick [0, 1] rfl (r_X2_metByAll_b0 v0 v1 h e hF))
theorem dX3_readRoom_0 : decode cX3_readRoom 0 = .ok (.aload_n 0, 1) := by decide +kernel
theorem dX3_readRoom_1 : decode cX3_readRoom 1 = .ok (.getfield 15, 3) := by decide +kernel
theorem dX3_readRoom_4 : decode cX3_readRoom 4 = .ok (.bipush 8, 2) := by decide +kernel
theorem dX3_readRoom_6 : decode cX3_readRoom 6 = .ok (.if_icmp .lt 8, 3) := by decide +kernel
theorem dX3_readRoom_9 : decode cX3_readRoom 9 = .ok (.aload_n 1, 1) := by decide +kernel
theorem dX3_readRoom_10 : decode cX3_readRoom 10 = .ok (.invokevirtual 85, 3) := by decide +kernel
theorem dX3_readRoom_13 : decode cX3_readRoom 13 = .ok (.ireturn, 1) := by decide +kernel
theorem dX3_readRoom_14 : decode cX3_readRoom 14 = .ok (.aload_n 0, 1) := by decide +kernel
theorem dX3_readRoom_15 : decode cX3_readRoom 15 = .ok (.iconst 0, 1) := by decide +kernel
theorem dX3_readRoom_16 : decode cX3_readRoom 16 = .ok (.aload_n 1, 1) := by decide +kernel
theorem dX3_readRoom_17 : decode cX3_readRoom 17 = .ok (.invokevirtual 61, 3) := by decide +kernel
theorem dX3_readRoom_20 : decode cX3_readRoom 20 = .ok (.aload_n 0, 1) := by decide +kernel
theorem dX3_readRoom_21 : decode cX3_readRoom 21 = .ok (.dup, 1) := by decide +kernel
theorem dX3_readRoom_22 : decode cX3_readRoom 22 = .ok (.getfield 15, 3) := by decide +kernel
theorem dX3_readRoom_25 : decode cX3_readRoom 25 = .ok (.iconst 1, 1) := by decide +kernel
theorem dX3_readRoom_26 : decode cX3_readRoom 26 = .ok (.iadd, 1) := by decide +kernel
theorem dX3_readRoom_27 : decode cX3_readRoom 27 = .ok (.putfield 15, 3) := by decide +kernel
theorem dX3_readRoom_30 : decode cX3_readRoom 30 = .ok (.aload_n 0, 1) := by decide +kernel
theorem dX3_readRoom_31 : decode cX3_readRoom 31 = .ok (.iconst 1, 1) := by decide +kernel
theorem dX3_readRoom_32 : decode cX3_readRoom 32 = .ok (.iconst 0, 1) := by decide +kernel
theorem dX3_readRoom_33 : decode cX3_readRoom 33 = .ok (.bipush 9, 2) := by decide +kernel
theorem dX3_readRoom_35 : decode cX3_readRoom 35 = .ok (.aload_n 1, 1) := by decide +kernel
theorem dX3_readRoom_36 : decode cX3_readRoom 36 = .ok (.invokevirtual 65, 3) := by decide +kernel
theorem dX3_readRoom_39 : decode cX3_readRoom 39 = .ok (.ifCond .eq 30, 3) := by decide +kernel
theorem dX3_readRoom_42 : decode cX3_readRoom 42 = .ok (.aload_n 0, 1) := by decide +kernel
theorem dX3_readRoom_43 : decode cX3_readRoom 43 = .ok (.iconst 2, 1) := by decide +kernel
theorem dX3_readRoom_44 : decode cX3_readRoom 44 = .ok (.iconst 0, 1) := by decide +kernel
theorem dX3_readRoom_45 : decode cX3_readRoom 45 = .ok (.bipush 9, 2) := by decide +kernel
theorem dX3_readRoom_47 : decode cX3_readRoom 47 = .ok (.aload_n 1, 1) := by decide +kernel
theorem dX3_readRoom_48 : decode cX3_readRoom 48 = .ok (.invokevirtual 65, 3) := by decide +kernel
theorem dX3_readRoom_51 : decode cX3_readRoom 51 = .ok (.ifCond .eq 18, 3) := by decide +kernel
theorem dX3_readRoom_54 : decode cX3_readRoom 54 = .ok (.aload_n 0, 1) := by decide +kernel
theorem dX3_readRoom_55 : decode cX3_readRoom 55 = .ok (.iconst 3, 1) := by decide +kernel
theorem dX3_readRoom_56 : decode cX3_readRoom 56 = .ok (.iconst 1, 1) := by decide +kernel
theorem dX3_readRoom_57 : decode cX3_readRoom 57 = .ok (.iconst 4, 1) := by decide +kernel
theorem dX3_readRoom_58 : decode cX3_readRoom 58 = .ok (.aload_n 1, 1) := by decide +kernel
theorem dX3_readRoom_59 : decode cX3_readRoom 59 = .ok (.invokevirtual 65, 3) := by decide +kernel
theorem dX3_readRoom_62 : decode cX3_readRoom 62 = .ok (.ifCond .eq 7, 3) := by decide +kernel
theorem dX3_readRoom_65 : decode cX3_readRoom 65 = .ok (.iconst 1, 1) := by decide +kernel
theorem dX3_readRoom_66 : decode cX3_readRoom 66 = .ok (.goto 4, 3) := by decide +kernel
theorem dX3_readRoom_69 : decode cX3_readRoom 69 = .ok (.iconst 0, 1) := by decide +kernel
theorem dX3_readRoom_70 : decode cX3_readRoom 70 = .ok (.ireturn, 1) := by decide +kernel
set_option maxRecDepth 100000 in
def F_X3_readRoom_b70 (t0 : Int32) (h : Hp) : Option (Int32 × Hp) :=
  gd (decide (t0 = 0 ∨ t0 = 1)) <| some (t0, h)
set_option maxHeartbeats 4000000 in
set_option maxRecDepth 100000 in
theorem r_X3_readRoom_b70 (t0 : Int32) (h : Hp) {x : Cx} {r : Int32} {hz : Hp} (e : F_X3_readRoom_b70 t0 h = some (r, hz)) (hF : Fin9 M_X3_readRoom x (some .boolean) (some (.int r)) hz) : V M_X3_readRoom x 4 70 [] [.int t0] h 0 0 := by
  unfold F_X3_readRoom_b70 at e
  obtain ⟨g9, e⟩ := gd_some e
  cases e
  exact V_zret (pc := 70) dX3_readRoom_70 (z01 (of_decide_eq_true g9)) hF
set_option maxRecDepth 100000 in
def F_X3_readRoom_b69  (h : Hp) : Option (Int32 × Hp) :=
  F_X3_readRoom_b70 (0 : Int32) h
set_option maxHeartbeats 4000000 in
set_option maxRecDepth 100000 in
theorem r_X3_readRoom_b69  (h : Hp) {x : Cx} {r : Int32} {hz : Hp} (e : F_X3_readRoom_b69  h = some (r, hz)) (hF : Fin9 M_X3_readRoom x (some .boolean) (some (.int r)) hz) : V M_X3_readRoom x 4 69 [] [] h 0 0 := by
  unfold F_X3_readRoom_b69 at e
  refine V_iconst (pc := 69) (v := (0 : Int32)) dX3_readRoom_69 (by decide) ?_
  exact V_pick [] rfl (r_X3_readRoom_b70 (0 : Int32) h e hF)
set_option maxRecDepth 100000 in
def F_X3_readRoom_b0 (v0 : Nat) (v1 : Nat) (h : Hp) : Option (Int32 × Hp) :=
  gd (decide (kd h v0 = 3)) <| (if (zI h v0 2) < (8 : Int32) then ob2 (F_X3_begin v0 (0 : Int32) v1 h) fun _ h4 => gd (decide (kd h4 v0 = 3)) <| ob2 (F_X3_keep v0 (1 : Int32) (0 : Int32) (9 : Int32) v1 (setI h4 v0 2 ((zI h4 v0 2) + (1 : Int32)))) fun r7 h8 => (if r7 = 0 then F_X3_readRoom_b69 h8 else ob2 (F_X3_keep v0 (2 : Int32) (0 : Int32) (9 : Int32) v1 h8) fun r11 h12 => gd (decide (kd h8 v0 = 3)) <| (if r11 = 0 then F_X3_readRoom_b69 h12 else ob2 (F_X3_keep v0 (3 : Int32) (1 : Int32) (4 : Int32) v1 h12) fun r15 h16 => gd (decide (kd h12 v0 = 3)) <| (if r15 = 0 then F_X3_readRoom_b69 h16 else F_X3_readRoom_b70 (1 : Int32) h16))) else ob2 (F_X6_refuse v1 h) fun r22 h23 => gd (decide (kd h v1 = 6)) <| gd (decide (r22 = 0 ∨ r22 = 1)) <| some (r22, h23))
set_option maxHeartbeats 4000000 in
set_option maxRecDepth 100000 in
theorem r_X3_readRoom_b0 (v0 : Nat) (v1 : Nat) (h : Hp) {x : Cx} {r : Int32} {hz : Hp} (e : F_X3_readRoom_b0 v0 v1 h = some (r, hz)) (hF : Fin9 M_X3_readRoom x (some .boolean) (some (.int r)) hz) : V M_X3_readRoom x 4 0 [(0, .ref v0), (1, .ref v1)] [] h 0 0 := by
  unfold F_X3_readRoom_b0 at e
  refine V_aload_n (pc := 0) (i := 0) dX3_readRoom_0 rfl rfl ?_
  obtain ⟨g1, e⟩ := gd_some e
  refine V_getI (pc := 1) (ci := 3) (k := 2) dX3_readRoom_1 fl_X3_15 rfl (of_decide_eq_true g1) ?_
  refine V_bipush (pc := 4) (v := (8 : Int32)) dX3_readRoom_4 (by decide) ?_
  refine V_icmp_lt (pc := 6) (tgt := 14) dX3_readRoom_6 (by decide) (fun c26 => ?_) (fun c26 => ?_)
  · rw [if_pos c26] at e
    refine V_pick [0, 1] rfl ?_
    refine V_aload_n (pc := 14) (i := 0) dX3_readRoom_14 rfl rfl ?_
    refine V_iconst (pc := 15) (v := (0 : Int32)) dX3_readRoom_15 (by decide) ?_
    refine V_aload_n (pc := 16) (i := 1) dX3_readRoom_16 rfl rfl ?_
    obtain ⟨r3, h4, g2, e⟩ := ob2_some e
    refine V_callV (pc := 17) (bc := 0) (bs := 0) (mc := 0) (ms := 0) (st := []) (As := [.int (0 : Int32), .ref v1]) (a := v0) (h' := h4) (r := none) dX3_readRoom_17 ml_X3_61 (ci := 3) rfl (of_decide_eq_true g1) rfl rfl (Nat.le_of_ble_eq_true rfl) (d' := 2) (by decide) (c_X3_begin (l := x.2.1) v0 (0 : Int32) v1 h g2) ?_
    refine V_aload_n (pc := 20) (i := 0) dX3_readRoom_20 rfl rfl ?_
    refine V_dup (pc := 21) dX3_readRoom_21 rfl ?_
    obtain ⟨g5, e⟩ := gd_some e
    refine V_getI (pc := 22) (ci := 3) (k := 2) dX3_readRoom_22 fl_X3_15 rfl (of_decide_eq_true g5) ?_
    refine V_iconst (pc := 25) (v := (1 : Int32)) dX3_readRoom_25 (by decide) ?_
    refine V_iadd (pc := 26) dX3_readRoom_26 ?_
    refine V_putI (pc := 27) (ci := 3) (k := 2) dX3_readRoom_27 fp_X3_15 rfl (of_decide_eq_true g5) ?_
    refine V_aload_n (pc := 30) (i := 0) dX3_readRoom_30 rfl rfl ?_
    refine V_iconst (pc := 31) (v := (1 : Int32)) dX3_readRoom_31 (by decide) ?_
    refine V_iconst (pc := 32) (v := (0 : Int32)) dX3_readRoom_32 (by decide) ?_
    refine V_bipush (pc := 33) (v := (9 : Int32)) dX3_readRoom_33 (by decide) ?_
    refine V_aload_n (pc := 35) (i := 1) dX3_readRoom_35 rfl rfl ?_
    obtain ⟨r7, h8, g6, e⟩ := ob2_some e
    refine V_callV (pc := 36) (bc := 0) (bs := 0) (mc := 0) (ms := 0) (st := []) (As := [.int (1 : Int32), .int (0 : Int32), .int (9 : Int32), .ref v1]) (a := v0) (h' := h8) (r := some (.int r7)) dX3_readRoom_36 ml_X3_65 (ci := 3) rfl (of_decide_eq_true g5) rfl rfl (Nat.le_of_ble_eq_true rfl) (d' := 3) (by decide) (c_X3_keep (l := x.2.1) v0 (1 : Int32) (0 : Int32) (9 : Int32) v1 (setI h4 v0 2 ((zI h4 v0 2) + (1 : Int32))) g6) ?_
    refine V_if_eq (pc := 39) (tgt := 69) dX3_readRoom_39 (by decide) (fun c20 => ?_) (fun c20 => ?_)
    · rw [if_pos c20] at e
      exact V_pick [] rfl (r_X3_readRoom_b69 h8 e hF)
    · rw [if_neg c20] at e
      refine V_pick [0, 1] rfl ?_
      refine V_aload_n (pc := 42) (i := 0) dX3_readRoom_42 rfl rfl ?_
      refine V_iconst (pc := 43) (v := (2 : Int32)) dX3_readRoom_43 (by decide) ?_
      refine V_iconst (pc := 44) (v := (0 : Int32)) dX3_readRoom_44 (by decide) ?_
      refine V_bipush (pc := 45) (v := (9 : Int32)) dX3_readRoom_45 (by decide) ?_
      refine V_aload_n (pc := 47) (i := 1) dX3_readRoom_47 rfl rfl ?_
      obtain ⟨r11, h12, g10, e⟩ := ob2_some e
      obtain ⟨g13, e⟩ := gd_some e
      refine V_callV (pc := 48) (bc := 0) (bs := 0) (mc := 0) (ms := 0) (st := []) (As := [.int (2 : Int32), .int (0 : Int32), .int (9 : Int32), .ref v1]) (a := v0) (h' := h12) (r := some (.int r11)) dX3_readRoom_48 ml_X3_65 (ci := 3) rfl (of_decide_eq_true g13) rfl rfl (Nat.le_of_ble_eq_true rfl) (d' := 3) (by decide) (c_X3_keep (l := x.2.1) v0 (2 : Int32) (0 : Int32) (9 : Int32) v1 h8 g10) ?_
      refine V_if_eq (pc := 51) (tgt := 69) dX3_readRoom_51 (by decide) (fun c19 => ?_) (fun c19 => ?_)
      · rw [if_pos c19] at e
        exact V_pick [] rfl (r_X3_readRoom_b69 h12 e hF)
      · rw [if_neg c19] at e
        refine V_pick [0, 1] rfl ?_
        refine V_aload_n (pc := 54) (i := 0) dX3_readRoom_54 rfl rfl ?_
        refine V_iconst (pc := 55) (v := (3 : Int32)) dX3_readRoom_55 (by decide) ?_
        refine V_iconst (pc := 56) (v := (1 : Int32)) dX3_readRoom_56 (by decide) ?_
        refine V_iconst (pc := 57) (v := (4 : Int32)) dX3_readRoom_57 (by decide) ?_
        refine V_aload_n (pc := 58) (i := 1) dX3_readRoom_58 rfl rfl ?_
        obtain ⟨r15, h16, g14, e⟩ := ob2_some e
        obtain ⟨g17, e⟩ := gd_some e
        refine V_callV (pc := 59) (bc := 0) (bs := 0) (mc := 0) (ms := 0) (st := []) (As := [.int (3 : Int32), .int (1 : Int32), .int (4 : Int32), .ref v1]) (a := v0) (h' := h16) (r := some (.int r15)) dX3_readRoom_59 ml_X3_65 (ci := 3) rfl (of_decide_eq_true g17) rfl rfl (Nat.le_of_ble_eq_true rfl) (d' := 3) (by decide) (c_X3_keep (l := x.2.1) v0 (3 : Int32) (1 : Int32) (4 : Int32) v1 h12 g14) ?_
        refine V_if_eq (pc := 62) (tgt := 69) dX3_readRoom_62 (by decide) (fun c18 => ?_) (fun c18 => ?_)
        · rw [if_pos c18] at e
          exact V_pick [] rfl (r_X3_readRoom_b69 h16 e hF)
        · rw [if_neg c18] at e
          refine V_pick [] rfl ?_
          refine V_iconst (pc := 65) (v := (1 : Int32)) dX3_readRoom_65 (by decide) ?_
          refine V_goto (pc := 66) (tgt := 70) dX3_readRoom_66 (by decide) ?_
          exact V_pick [] rfl (r_X3_readRoom_b70 (1 : Int32) h16 e hF)
  · rw [if_neg c26] at e
    refine V_pick [1] rfl ?_
    refine V_aload_n (pc := 9) (i := 1) dX3_readRoom_9 rfl rfl ?_
    obtain ⟨r22, h23, g21, e⟩ := ob2_some e
    obtain ⟨g24, e⟩ := gd_some e
    refine V_callV (pc := 10) (bc := 0) (bs := 0) (mc := 0) (ms := 0) (st := []) (As := []) (a := v1) (h' := h23) (r := some (.int r22)) dX3_readRoom_10 ml_X3_85 (ci := 6) rfl (of_decide_eq_true g24) rfl rfl (Nat.le_of_ble_eq_true rfl) (d' := 0) (by decide) (c_X6_refuse (l := x.2.1) v1 h g21) ?_
    obtain ⟨g25, e⟩ := gd_some e
    cases e
    exact V_zret (pc := 13) dX3_readRoom_13 (z01 (of_decide_eq_true g25)) hF
def F_X3_readRoom (v0 : Nat) (v1 : Nat) (h : Hp) : Option (Int32 × Hp) := F_X3_readRoom_b0 v0 v1 h
theorem c_X3_readRoom {l : Launch} (v0 : Nat) (v1 : Nat) (h : Hp) {r : Int32} {hz : Hp} (e : F_X3_readRoom v0 v1 h = some (r, hz)) : Ct l yX3_readRoom M_X3_readRoom (some .boolean) 4 [.ref v0, .ref v1] h 0 0 (some (.int r)) hz :=
  Ct_of rfl rfl (fun q => by cases q) (Nat.le_of_ble_eq_true rfl) (fun x _ hF => V_pick [0, 1] rfl (r_X3_readRoom_b0 v0 v1 h e hF))
theorem dX3_readGuest_0 : decode cX3_readGuest 0 = .ok (.aload_n 0, 1) := by decide +kernel
theorem dX3_readGuest_1 : decode cX3_readGuest 1 = .ok (.getfield 19, 3) := by decide +kernel
theorem dX3_readGuest_4 : decode cX3_readGuest 4 = .ok (.iconst 5, 1) := by decide +kernel
theorem dX3_readGuest_5 : decode cX3_readGuest 5 = .ok (.if_icmp .lt 8, 3) := by decide +kernel
theorem dX3_readGuest_8 : decode cX3_readGuest 8 = .ok (.aload_n 1, 1) := by decide +kernel
theorem dX3_readGuest_9 : decode cX3_readGuest 9 = .ok (.invokevirtual 85, 3) := by decide +kernel
theorem dX3_readGuest_12 : decode cX3_readGuest 12 = .ok (.ireturn, 1) := by decide +kernel
theorem dX3_readGuest_13 : decode cX3_readGuest 13 = .ok (.aload_n 0, 1) := by decide +kernel
theorem dX3_readGuest_14 : decode cX3_readGuest 14 = .ok (.iconst 1, 1) := by decide +kernel
theorem dX3_readGuest_15 : decode cX3_readGuest 15 = .ok (.aload_n 1, 1) := by decide +kernel
theorem dX3_readGuest_16 : decode cX3_readGuest 16 = .ok (.invokevirtual 61, 3) := by decide +kernel
theorem dX3_readGuest_19 : decode cX3_readGuest 19 = .ok (.aload_n 0, 1) := by decide +kernel
theorem dX3_readGuest_20 : decode cX3_readGuest 20 = .ok (.dup, 1) := by decide +kernel
theorem dX3_readGuest_21 : decode cX3_readGuest 21 = .ok (.getfield 19, 3) := by decide +kernel
theorem dX3_readGuest_24 : decode cX3_readGuest 24 = .ok (.iconst 1, 1) := by decide +kernel
theorem dX3_readGuest_25 : decode cX3_readGuest 25 = .ok (.iadd, 1) := by decide +kernel
theorem dX3_readGuest_26 : decode cX3_readGuest 26 = .ok (.putfield 19, 3) := by decide +kernel
theorem dX3_readGuest_29 : decode cX3_readGuest 29 = .ok (.aload_n 0, 1) := by decide +kernel
theorem dX3_readGuest_30 : decode cX3_readGuest 30 = .ok (.iconst 1, 1) := by decide +kernel
theorem dX3_readGuest_31 : decode cX3_readGuest 31 = .ok (.iconst 1, 1) := by decide +kernel
theorem dX3_readGuest_32 : decode cX3_readGuest 32 = .ok (.sipush 200, 3) := by decide +kernel
theorem dX3_readGuest_35 : decode cX3_readGuest 35 = .ok (.aload_n 1, 1) := by decide +kernel
theorem dX3_readGuest_36 : decode cX3_readGuest 36 = .ok (.invokevirtual 65, 3) := by decide +kernel
theorem dX3_readGuest_39 : decode cX3_readGuest 39 = .ok (.ifCond .eq 32, 3) := by decide +kernel
theorem dX3_readGuest_42 : decode cX3_readGuest 42 = .ok (.aload_n 1, 1) := by decide +kernel
theorem dX3_readGuest_43 : decode cX3_readGuest 43 = .ok (.ldc 69, 2) := by decide +kernel
theorem dX3_readGuest_45 : decode cX3_readGuest 45 = .ok (.invokevirtual 71, 3) := by decide +kernel
theorem dX3_readGuest_48 : decode cX3_readGuest 48 = .ok (.ifCond .eq 23, 3) := by decide +kernel
theorem dX3_readGuest_51 : decode cX3_readGuest 51 = .ok (.aload_n 0, 1) := by decide +kernel
theorem dX3_readGuest_52 : decode cX3_readGuest 52 = .ok (.iconst 2, 1) := by decide +kernel
theorem dX3_readGuest_53 : decode cX3_readGuest 53 = .ok (.iconst 0, 1) := by decide +kernel
theorem dX3_readGuest_54 : decode cX3_readGuest 54 = .ok (.aload_n 0, 1) := by decide +kernel
theorem dX3_readGuest_55 : decode cX3_readGuest 55 = .ok (.getfield 15, 3) := by decide +kernel
theorem dX3_readGuest_58 : decode cX3_readGuest 58 = .ok (.iconst 1, 1) := by decide +kernel
theorem dX3_readGuest_59 : decode cX3_readGuest 59 = .ok (.isub, 1) := by decide +kernel
theorem dX3_readGuest_60 : decode cX3_readGuest 60 = .ok (.aload_n 1, 1) := by decide +kernel
theorem dX3_readGuest_61 : decode cX3_readGuest 61 = .ok (.invokevirtual 65, 3) := by decide +kernel
theorem dX3_readGuest_64 : decode cX3_readGuest 64 = .ok (.ifCond .eq 7, 3) := by decide +kernel
theorem dX3_readGuest_67 : decode cX3_readGuest 67 = .ok (.iconst 1, 1) := by decide +kernel
theorem dX3_readGuest_68 : decode cX3_readGuest 68 = .ok (.goto 4, 3) := by decide +kernel
theorem dX3_readGuest_71 : decode cX3_readGuest 71 = .ok (.iconst 0, 1) := by decide +kernel
theorem dX3_readGuest_72 : decode cX3_readGuest 72 = .ok (.ireturn, 1) := by decide +kernel
set_option maxRecDepth 100000 in
def F_X3_readGuest_b72 (t0 : Int32) (h : Hp) : Option (Int32 × Hp) :=
  gd (decide (t0 = 0 ∨ t0 = 1)) <| some (t0, h)
set_option maxHeartbeats 4000000 in
set_option maxRecDepth 100000 in
theorem r_X3_readGuest_b72 (t0 : Int32) (h : Hp) {x : Cx} {r : Int32} {hz : Hp} (e : F_X3_readGuest_b72 t0 h = some (r, hz)) (hF : Fin9 M_X3_readGuest x (some .boolean) (some (.int r)) hz) : V M_X3_readGuest x 6 72 [] [.int t0] h 0 0 := by
  unfold F_X3_readGuest_b72 at e
  obtain ⟨g9, e⟩ := gd_some e
  cases e
  exact V_zret (pc := 72) dX3_readGuest_72 (z01 (of_decide_eq_true g9)) hF
set_option maxRecDepth 100000 in
def F_X3_readGuest_b71  (h : Hp) : Option (Int32 × Hp) :=
  F_X3_readGuest_b72 (0 : Int32) h
set_option maxHeartbeats 4000000 in
set_option maxRecDepth 100000 in
theorem r_X3_readGuest_b71  (h : Hp) {x : Cx} {r : Int32} {hz : Hp} (e : F_X3_readGuest_b71  h = some (r, hz)) (hF : Fin9 M_X3_readGuest x (some .boolean) (some (.int r)) hz) : V M_X3_readGuest x 6 71 [] [] h 0 0 := by
  unfold F_X3_readGuest_b71 at e
  refine V_iconst (pc := 71) (v := (0 : Int32)) dX3_readGuest_71 (by decide) ?_
  exact V_pick [] rfl (r_X3_readGuest_b72 (0 : Int32) h e hF)
set_option maxRecDepth 100000 in
def F_X3_readGuest_b0 (v0 : Nat) (v1 : Nat) (h : Hp) : Option (Int32 × Hp) :=
  gd (decide (kd h v0 = 3)) <| (if (zI h v0 3) < (5 : Int32) then ob2 (F_X3_begin v0 (1 : Int32) v1 h) fun _ h4 => gd (decide (kd h4 v0 = 3)) <| ob2 (F_X3_keep v0 (1 : Int32) (1 : Int32) (200 : Int32) v1 (setI h4 v0 3 ((zI h4 v0 3) + (1 : Int32)))) fun r7 h8 => (if r7 = 0 then F_X3_readGuest_b71 h8 else ob2 (F_X6_takeWord v1 (4 : UInt32) h8) fun r11 h12 => gd (decide (kd h8 v1 = 6)) <| (if r11 = 0 then F_X3_readGuest_b71 h12 else gd (decide (kd h12 v0 = 3)) <| ob2 (F_X3_keep v0 (2 : Int32) (0 : Int32) ((zI h12 v0 2) - (1 : Int32)) v1 h12) fun r16 h17 => (if r16 = 0 then F_X3_readGuest_b71 h17 else F_X3_readGuest_b72 (1 : Int32) h17))) else ob2 (F_X6_refuse v1 h) fun r22 h23 => gd (decide (kd h v1 = 6)) <| gd (decide (r22 = 0 ∨ r22 = 1)) <| some (r22, h23))
set_option maxHeartbeats 4000000 in
set_option maxRecDepth 100000 in
theorem r_X3_readGuest_b0 (v0 : Nat) (v1 : Nat) (h : Hp) {x : Cx} {r : Int32} {hz : Hp} (e : F_X3_readGuest_b0 v0 v1 h = some (r, hz)) (hF : Fin9 M_X3_readGuest x (some .boolean) (some (.int r)) hz) : V M_X3_readGuest x 6 0 [(0, .ref v0), (1, .ref v1)] [] h 0 0 := by
  unfold F_X3_readGuest_b0 at e
  refine V_aload_n (pc := 0) (i := 0) dX3_readGuest_0 rfl rfl ?_
  obtain ⟨g1, e⟩ := gd_some e
  refine V_getI (pc := 1) (ci := 3) (k := 3) dX3_readGuest_1 fl_X3_19 rfl (of_decide_eq_true g1) ?_
  refine V_iconst (pc := 4) (v := (5 : Int32)) dX3_readGuest_4 (by decide) ?_
  refine V_icmp_lt (pc := 5) (tgt := 13) dX3_readGuest_5 (by decide) (fun c26 => ?_) (fun c26 => ?_)
  · rw [if_pos c26] at e
    refine V_pick [0, 1] rfl ?_
    refine V_aload_n (pc := 13) (i := 0) dX3_readGuest_13 rfl rfl ?_
    refine V_iconst (pc := 14) (v := (1 : Int32)) dX3_readGuest_14 (by decide) ?_
    refine V_aload_n (pc := 15) (i := 1) dX3_readGuest_15 rfl rfl ?_
    obtain ⟨r3, h4, g2, e⟩ := ob2_some e
    refine V_callV (pc := 16) (bc := 0) (bs := 0) (mc := 0) (ms := 0) (st := []) (As := [.int (1 : Int32), .ref v1]) (a := v0) (h' := h4) (r := none) dX3_readGuest_16 ml_X3_61 (ci := 3) rfl (of_decide_eq_true g1) rfl rfl (Nat.le_of_ble_eq_true rfl) (d' := 2) (by decide) (c_X3_begin (l := x.2.1) v0 (1 : Int32) v1 h g2) ?_
    refine V_aload_n (pc := 19) (i := 0) dX3_readGuest_19 rfl rfl ?_
    refine V_dup (pc := 20) dX3_readGuest_20 rfl ?_
    obtain ⟨g5, e⟩ := gd_some e
    refine V_getI (pc := 21) (ci := 3) (k := 3) dX3_readGuest_21 fl_X3_19 rfl (of_decide_eq_true g5) ?_
    refine V_iconst (pc := 24) (v := (1 : Int32)) dX3_readGuest_24 (by decide) ?_
    refine V_iadd (pc := 25) dX3_readGuest_25 ?_
    refine V_putI (pc := 26) (ci := 3) (k := 3) dX3_readGuest_26 fp_X3_19 rfl (of_decide_eq_true g5) ?_
    refine V_aload_n (pc := 29) (i := 0) dX3_readGuest_29 rfl rfl ?_
    refine V_iconst (pc := 30) (v := (1 : Int32)) dX3_readGuest_30 (by decide) ?_
    refine V_iconst (pc := 31) (v := (1 : Int32)) dX3_readGuest_31 (by decide) ?_
    refine V_sipush (pc := 32) (v := (200 : Int32)) dX3_readGuest_32 (by decide) ?_
    refine V_aload_n (pc := 35) (i := 1) dX3_readGuest_35 rfl rfl ?_
    obtain ⟨r7, h8, g6, e⟩ := ob2_some e
    refine V_callV (pc := 36) (bc := 0) (bs := 0) (mc := 0) (ms := 0) (st := []) (As := [.int (1 : Int32), .int (1 : Int32), .int (200 : Int32), .ref v1]) (a := v0) (h' := h8) (r := some (.int r7)) dX3_readGuest_36 ml_X3_65 (ci := 3) rfl (of_decide_eq_true g5) rfl rfl (Nat.le_of_ble_eq_true rfl) (d' := 3) (by decide) (c_X3_keep (l := x.2.1) v0 (1 : Int32) (1 : Int32) (200 : Int32) v1 (setI h4 v0 3 ((zI h4 v0 3) + (1 : Int32))) g6) ?_
    refine V_if_eq (pc := 39) (tgt := 71) dX3_readGuest_39 (by decide) (fun c20 => ?_) (fun c20 => ?_)
    · rw [if_pos c20] at e
      exact V_pick [] rfl (r_X3_readGuest_b71 h8 e hF)
    · rw [if_neg c20] at e
      refine V_pick [0, 1] rfl ?_
      refine V_aload_n (pc := 42) (i := 1) dX3_readGuest_42 rfl rfl ?_
      refine V_ldcS (pc := 43) (j := 4) (u := (4 : UInt32)) dX3_readGuest_43 rfl (by decide) ?_
      obtain ⟨r11, h12, g10, e⟩ := ob2_some e
      obtain ⟨g13, e⟩ := gd_some e
      refine V_callV (pc := 45) (bc := 0) (bs := 0) (mc := 0) (ms := 0) (st := []) (As := [.float (4 : UInt32)]) (a := v1) (h' := h12) (r := some (.int r11)) dX3_readGuest_45 ml_X3_71 (ci := 6) rfl (of_decide_eq_true g13) rfl rfl (Nat.le_of_ble_eq_true rfl) (d' := 5) (by decide) (c_X6_takeWord (l := x.2.1) v1 (4 : UInt32) h8 g10) ?_
      refine V_if_eq (pc := 48) (tgt := 71) dX3_readGuest_48 (by decide) (fun c19 => ?_) (fun c19 => ?_)
      · rw [if_pos c19] at e
        exact V_pick [] rfl (r_X3_readGuest_b71 h12 e hF)
      · rw [if_neg c19] at e
        refine V_pick [0, 1] rfl ?_
        refine V_aload_n (pc := 51) (i := 0) dX3_readGuest_51 rfl rfl ?_
        refine V_iconst (pc := 52) (v := (2 : Int32)) dX3_readGuest_52 (by decide) ?_
        refine V_iconst (pc := 53) (v := (0 : Int32)) dX3_readGuest_53 (by decide) ?_
        refine V_aload_n (pc := 54) (i := 0) dX3_readGuest_54 rfl rfl ?_
        obtain ⟨g14, e⟩ := gd_some e
        refine V_getI (pc := 55) (ci := 3) (k := 2) dX3_readGuest_55 fl_X3_15 rfl (of_decide_eq_true g14) ?_
        refine V_iconst (pc := 58) (v := (1 : Int32)) dX3_readGuest_58 (by decide) ?_
        refine V_isub (pc := 59) dX3_readGuest_59 ?_
        refine V_aload_n (pc := 60) (i := 1) dX3_readGuest_60 rfl rfl ?_
        obtain ⟨r16, h17, g15, e⟩ := ob2_some e
        refine V_callV (pc := 61) (bc := 0) (bs := 0) (mc := 0) (ms := 0) (st := []) (As := [.int (2 : Int32), .int (0 : Int32), .int ((zI h12 v0 2) - (1 : Int32)), .ref v1]) (a := v0) (h' := h17) (r := some (.int r16)) dX3_readGuest_61 ml_X3_65 (ci := 3) rfl (of_decide_eq_true g14) rfl rfl (Nat.le_of_ble_eq_true rfl) (d' := 3) (by decide) (c_X3_keep (l := x.2.1) v0 (2 : Int32) (0 : Int32) ((zI h12 v0 2) - (1 : Int32)) v1 h12 g15) ?_
        refine V_if_eq (pc := 64) (tgt := 71) dX3_readGuest_64 (by decide) (fun c18 => ?_) (fun c18 => ?_)
        · rw [if_pos c18] at e
          exact V_pick [] rfl (r_X3_readGuest_b71 h17 e hF)
        · rw [if_neg c18] at e
          refine V_pick [] rfl ?_
          refine V_iconst (pc := 67) (v := (1 : Int32)) dX3_readGuest_67 (by decide) ?_
          refine V_goto (pc := 68) (tgt := 72) dX3_readGuest_68 (by decide) ?_
          exact V_pick [] rfl (r_X3_readGuest_b72 (1 : Int32) h17 e hF)
  · rw [if_neg c26] at e
    refine V_pick [1] rfl ?_
    refine V_aload_n (pc := 8) (i := 1) dX3_readGuest_8 rfl rfl ?_
    obtain ⟨r22, h23, g21, e⟩ := ob2_some e
    obtain ⟨g24, e⟩ := gd_some e
    refine V_callV (pc := 9) (bc := 0) (bs := 0) (mc := 0) (ms := 0) (st := []) (As := []) (a := v1) (h' := h23) (r := some (.int r22)) dX3_readGuest_9 ml_X3_85 (ci := 6) rfl (of_decide_eq_true g24) rfl rfl (Nat.le_of_ble_eq_true rfl) (d' := 0) (by decide) (c_X6_refuse (l := x.2.1) v1 h g21) ?_
    obtain ⟨g25, e⟩ := gd_some e
    cases e
    exact V_zret (pc := 12) dX3_readGuest_12 (z01 (of_decide_eq_true g25)) hF
def F_X3_readGuest (v0 : Nat) (v1 : Nat) (h : Hp) : Option (Int32 × Hp) := F_X3_readGuest_b0 v0 v1 h
theorem c_X3_readGuest {l : Launch} (v0 : Nat) (v1 : Nat) (h : Hp) {r : Int32} {hz : Hp} (e : F_X3_readGuest v0 v1 h = some (r, hz)) : Ct l yX3_readGuest M_X3_readGuest (some .boolean) 6 [.ref v0, .ref v1] h 0 0 (some (.int r)) hz :=
  Ct_of rfl rfl (fun q => by cases q) (Nat.le_of_ble_eq_true rfl) (fun x _ hF => V_pick [0, 1] rfl (r_X3_readGuest_b0 v0 v1 h e hF))
theorem dX3_readTrunk_0 : decode cX3_readTrunk 0 = .ok (.aload_n 0, 1) := by decide +kernel
theorem dX3_readTrunk_1 : decode cX3_readTrunk 1 = .ok (.getfield 22, 3) := by decide +kernel
theorem dX3_readTrunk_4 : decode cX3_readTrunk 4 = .ok (.bipush 6, 2) := by decide +kernel
theorem dX3_readTrunk_6 : decode cX3_readTrunk 6 = .ok (.if_icmp .lt 8, 3) := by decide +kernel
theorem dX3_readTrunk_9 : decode cX3_readTrunk 9 = .ok (.aload_n 1, 1) := by decide +kernel
theorem dX3_readTrunk_10 : decode cX3_readTrunk 10 = .ok (.invokevirtual 85, 3) := by decide +kernel
theorem dX3_readTrunk_13 : decode cX3_readTrunk 13 = .ok (.ireturn, 1) := by decide +kernel
theorem dX3_readTrunk_14 : decode cX3_readTrunk 14 = .ok (.aload_n 0, 1) := by decide +kernel
theorem dX3_readTrunk_15 : decode cX3_readTrunk 15 = .ok (.iconst 2, 1) := by decide +kernel
theorem dX3_readTrunk_16 : decode cX3_readTrunk 16 = .ok (.aload_n 1, 1) := by decide +kernel
theorem dX3_readTrunk_17 : decode cX3_readTrunk 17 = .ok (.invokevirtual 61, 3) := by decide +kernel
theorem dX3_readTrunk_20 : decode cX3_readTrunk 20 = .ok (.aload_n 0, 1) := by decide +kernel
theorem dX3_readTrunk_21 : decode cX3_readTrunk 21 = .ok (.dup, 1) := by decide +kernel
theorem dX3_readTrunk_22 : decode cX3_readTrunk 22 = .ok (.getfield 22, 3) := by decide +kernel
theorem dX3_readTrunk_25 : decode cX3_readTrunk 25 = .ok (.iconst 1, 1) := by decide +kernel
theorem dX3_readTrunk_26 : decode cX3_readTrunk 26 = .ok (.iadd, 1) := by decide +kernel
theorem dX3_readTrunk_27 : decode cX3_readTrunk 27 = .ok (.putfield 22, 3) := by decide +kernel
theorem dX3_readTrunk_30 : decode cX3_readTrunk 30 = .ok (.aload_n 0, 1) := by decide +kernel
theorem dX3_readTrunk_31 : decode cX3_readTrunk 31 = .ok (.iconst 1, 1) := by decide +kernel
theorem dX3_readTrunk_32 : decode cX3_readTrunk 32 = .ok (.iconst 0, 1) := by decide +kernel
theorem dX3_readTrunk_33 : decode cX3_readTrunk 33 = .ok (.sipush 300, 3) := by decide +kernel
theorem dX3_readTrunk_36 : decode cX3_readTrunk 36 = .ok (.aload_n 1, 1) := by decide +kernel
theorem dX3_readTrunk_37 : decode cX3_readTrunk 37 = .ok (.invokevirtual 65, 3) := by decide +kernel
theorem dX3_readTrunk_40 : decode cX3_readTrunk 40 = .ok (.ifCond .eq 57, 3) := by decide +kernel
theorem dX3_readTrunk_43 : decode cX3_readTrunk 43 = .ok (.aload_n 1, 1) := by decide +kernel
theorem dX3_readTrunk_44 : decode cX3_readTrunk 44 = .ok (.ldc 89, 2) := by decide +kernel
theorem dX3_readTrunk_46 : decode cX3_readTrunk 46 = .ok (.invokevirtual 71, 3) := by decide +kernel
theorem dX3_readTrunk_49 : decode cX3_readTrunk 49 = .ok (.ifCond .eq 48, 3) := by decide +kernel
theorem dX3_readTrunk_52 : decode cX3_readTrunk 52 = .ok (.aload_n 0, 1) := by decide +kernel
theorem dX3_readTrunk_53 : decode cX3_readTrunk 53 = .ok (.iconst 2, 1) := by decide +kernel
theorem dX3_readTrunk_54 : decode cX3_readTrunk 54 = .ok (.aload_n 1, 1) := by decide +kernel
theorem dX3_readTrunk_55 : decode cX3_readTrunk 55 = .ok (.getfield 91, 3) := by decide +kernel
theorem dX3_readTrunk_58 : decode cX3_readTrunk 58 = .ok (.sipush 300, 3) := by decide +kernel
theorem dX3_readTrunk_61 : decode cX3_readTrunk 61 = .ok (.aload_n 1, 1) := by decide +kernel
theorem dX3_readTrunk_62 : decode cX3_readTrunk 62 = .ok (.invokevirtual 65, 3) := by decide +kernel
theorem dX3_readTrunk_65 : decode cX3_readTrunk 65 = .ok (.ifCond .eq 32, 3) := by decide +kernel
theorem dX3_readTrunk_68 : decode cX3_readTrunk 68 = .ok (.aload_n 1, 1) := by decide +kernel
theorem dX3_readTrunk_69 : decode cX3_readTrunk 69 = .ok (.ldc 69, 2) := by decide +kernel
theorem dX3_readTrunk_71 : decode cX3_readTrunk 71 = .ok (.invokevirtual 71, 3) := by decide +kernel
theorem dX3_readTrunk_74 : decode cX3_readTrunk 74 = .ok (.ifCond .eq 23, 3) := by decide +kernel
theorem dX3_readTrunk_77 : decode cX3_readTrunk 77 = .ok (.aload_n 0, 1) := by decide +kernel
theorem dX3_readTrunk_78 : decode cX3_readTrunk 78 = .ok (.iconst 3, 1) := by decide +kernel
theorem dX3_readTrunk_79 : decode cX3_readTrunk 79 = .ok (.iconst 0, 1) := by decide +kernel
theorem dX3_readTrunk_80 : decode cX3_readTrunk 80 = .ok (.aload_n 0, 1) := by decide +kernel
theorem dX3_readTrunk_81 : decode cX3_readTrunk 81 = .ok (.getfield 15, 3) := by decide +kernel
theorem dX3_readTrunk_84 : decode cX3_readTrunk 84 = .ok (.iconst 1, 1) := by decide +kernel
theorem dX3_readTrunk_85 : decode cX3_readTrunk 85 = .ok (.isub, 1) := by decide +kernel
theorem dX3_readTrunk_86 : decode cX3_readTrunk 86 = .ok (.aload_n 1, 1) := by decide +kernel
theorem dX3_readTrunk_87 : decode cX3_readTrunk 87 = .ok (.invokevirtual 65, 3) := by decide +kernel
theorem dX3_readTrunk_90 : decode cX3_readTrunk 90 = .ok (.ifCond .eq 7, 3) := by decide +kernel
theorem dX3_readTrunk_93 : decode cX3_readTrunk 93 = .ok (.iconst 1, 1) := by decide +kernel
theorem dX3_readTrunk_94 : decode cX3_readTrunk 94 = .ok (.goto 4, 3) := by decide +kernel
theorem dX3_readTrunk_97 : decode cX3_readTrunk 97 = .ok (.iconst 0, 1) := by decide +kernel
theorem dX3_readTrunk_98 : decode cX3_readTrunk 98 = .ok (.ireturn, 1) := by decide +kernel
set_option maxRecDepth 100000 in
def F_X3_readTrunk_b98 (t0 : Int32) (h : Hp) : Option (Int32 × Hp) :=
  gd (decide (t0 = 0 ∨ t0 = 1)) <| some (t0, h)
set_option maxHeartbeats 4000000 in
set_option maxRecDepth 100000 in
theorem r_X3_readTrunk_b98 (t0 : Int32) (h : Hp) {x : Cx} {r : Int32} {hz : Hp} (e : F_X3_readTrunk_b98 t0 h = some (r, hz)) (hF : Fin9 M_X3_readTrunk x (some .boolean) (some (.int r)) hz) : V M_X3_readTrunk x 6 98 [] [.int t0] h 0 0 := by
  unfold F_X3_readTrunk_b98 at e
  obtain ⟨g9, e⟩ := gd_some e
  cases e
  exact V_zret (pc := 98) dX3_readTrunk_98 (z01 (of_decide_eq_true g9)) hF
set_option maxRecDepth 100000 in
def F_X3_readTrunk_b97  (h : Hp) : Option (Int32 × Hp) :=
  F_X3_readTrunk_b98 (0 : Int32) h
set_option maxHeartbeats 4000000 in
set_option maxRecDepth 100000 in
theorem r_X3_readTrunk_b97  (h : Hp) {x : Cx} {r : Int32} {hz : Hp} (e : F_X3_readTrunk_b97  h = some (r, hz)) (hF : Fin9 M_X3_readTrunk x (some .boolean) (some (.int r)) hz) : V M_X3_readTrunk x 6 97 [] [] h 0 0 := by
  unfold F_X3_readTrunk_b97 at e
  refine V_iconst (pc := 97) (v := (0 : Int32)) dX3_readTrunk_97 (by decide) ?_
  exact V_pick [] rfl (r_X3_readTrunk_b98 (0 : Int32) h e hF)
set_option maxRecDepth 100000 in
def F_X3_readTrunk_b0 (v0 : Nat) (v1 : Nat) (h : Hp) : Option (Int32 × Hp) :=
  gd (decide (kd h v0 = 3)) <| (if (zI h v0 4) < (6 : Int32) then ob2 (F_X3_begin v0 (2 : Int32) v1 h) fun _ h4 => gd (decide (kd h4 v0 = 3)) <| ob2 (F_X3_keep v0 (1 : Int32) (0 : Int32) (300 : Int32) v1 (setI h4 v0 4 ((zI h4 v0 4) + (1 : Int32)))) fun r7 h8 => (if r7 = 0 then F_X3_readTrunk_b97 h8 else ob2 (F_X6_takeWord v1 (6 : UInt32) h8) fun r11 h12 => gd (decide (kd h8 v1 = 6)) <| (if r11 = 0 then F_X3_readTrunk_b97 h12 else gd (decide (kd h12 v1 = 6)) <| ob2 (F_X3_keep v0 (2 : Int32) (zI h12 v1 5) (300 : Int32) v1 h12) fun r16 h17 => gd (decide (kd h12 v0 = 3)) <| (if r16 = 0 then F_X3_readTrunk_b97 h17 else ob2 (F_X6_takeWord v1 (4 : UInt32) h17) fun r20 h21 => gd (decide (kd h17 v1 = 6)) <| (if r20 = 0 then F_X3_readTrunk_b97 h21 else gd (decide (kd h21 v0 = 3)) <| ob2 (F_X3_keep v0 (3 : Int32) (0 : Int32) ((zI h21 v0 2) - (1 : Int32)) v1 h21) fun r25 h26 => (if r25 = 0 then F_X3_readTrunk_b97 h26 else F_X3_readTrunk_b98 (1 : Int32) h26))))) else ob2 (F_X6_refuse v1 h) fun r33 h34 => gd (decide (kd h v1 = 6)) <| gd (decide (r33 = 0 ∨ r33 = 1)) <| some (r33, h34))
set_option maxHeartbeats 4000000 in
set_option maxRecDepth 100000 in
theorem r_X3_readTrunk_b0 (v0 : Nat) (v1 : Nat) (h : Hp) {x : Cx} {r : Int32} {hz : Hp} (e : F_X3_readTrunk_b0 v0 v1 h = some (r, hz)) (hF : Fin9 M_X3_readTrunk x (some .boolean) (some (.int r)) hz) : V M_X3_readTrunk x 6 0 [(0, .ref v0), (1, .ref v1)] [] h 0 0 := by
  unfold F_X3_readTrunk_b0 at e
  refine V_aload_n (pc := 0) (i := 0) dX3_readTrunk_0 rfl rfl ?_
  obtain ⟨g1, e⟩ := gd_some e
  refine V_getI (pc := 1) (ci := 3) (k := 4) dX3_readTrunk_1 fl_X3_22 rfl (of_decide_eq_true g1) ?_
  refine V_bipush (pc := 4) (v := (6 : Int32)) dX3_readTrunk_4 (by decide) ?_
  refine V_icmp_lt (pc := 6) (tgt := 14) dX3_readTrunk_6 (by decide) (fun c37 => ?_) (fun c37 => ?_)
  · rw [if_pos c37] at e
    refine V_pick [0, 1] rfl ?_
    refine V_aload_n (pc := 14) (i := 0) dX3_readTrunk_14 rfl rfl ?_
    refine V_iconst (pc := 15) (v := (2 : Int32)) dX3_readTrunk_15 (by decide) ?_
    refine V_aload_n (pc := 16) (i := 1) dX3_readTrunk_16 rfl rfl ?_
    obtain ⟨r3, h4, g2, e⟩ := ob2_some e
    refine V_callV (pc := 17) (bc := 0) (bs := 0) (mc := 0) (ms := 0) (st := []) (As := [.int (2 : Int32), .ref v1]) (a := v0) (h' := h4) (r := none) dX3_readTrunk_17 ml_X3_61 (ci := 3) rfl (of_decide_eq_true g1) rfl rfl (Nat.le_of_ble_eq_true rfl) (d' := 2) (by decide) (c_X3_begin (l := x.2.1) v0 (2 : Int32) v1 h g2) ?_
    refine V_aload_n (pc := 20) (i := 0) dX3_readTrunk_20 rfl rfl ?_
    refine V_dup (pc := 21) dX3_readTrunk_21 rfl ?_
    obtain ⟨g5, e⟩ := gd_some e
    refine V_getI (pc := 22) (ci := 3) (k := 4) dX3_readTrunk_22 fl_X3_22 rfl (of_decide_eq_true g5) ?_
    refine V_iconst (pc := 25) (v := (1 : Int32)) dX3_readTrunk_25 (by decide) ?_
    refine V_iadd (pc := 26) dX3_readTrunk_26 ?_
    refine V_putI (pc := 27) (ci := 3) (k := 4) dX3_readTrunk_27 fp_X3_22 rfl (of_decide_eq_true g5) ?_
    refine V_aload_n (pc := 30) (i := 0) dX3_readTrunk_30 rfl rfl ?_
    refine V_iconst (pc := 31) (v := (1 : Int32)) dX3_readTrunk_31 (by decide) ?_
    refine V_iconst (pc := 32) (v := (0 : Int32)) dX3_readTrunk_32 (by decide) ?_
    refine V_sipush (pc := 33) (v := (300 : Int32)) dX3_readTrunk_33 (by decide) ?_
    refine V_aload_n (pc := 36) (i := 1) dX3_readTrunk_36 rfl rfl ?_
    obtain ⟨r7, h8, g6, e⟩ := ob2_some e
    refine V_callV (pc := 37) (bc := 0) (bs := 0) (mc := 0) (ms := 0) (st := []) (As := [.int (1 : Int32), .int (0 : Int32), .int (300 : Int32), .ref v1]) (a := v0) (h' := h8) (r := some (.int r7)) dX3_readTrunk_37 ml_X3_65 (ci := 3) rfl (of_decide_eq_true g5) rfl rfl (Nat.le_of_ble_eq_true rfl) (d' := 3) (by decide) (c_X3_keep (l := x.2.1) v0 (1 : Int32) (0 : Int32) (300 : Int32) v1 (setI h4 v0 4 ((zI h4 v0 4) + (1 : Int32))) g6) ?_
    refine V_if_eq (pc := 40) (tgt := 97) dX3_readTrunk_40 (by decide) (fun c31 => ?_) (fun c31 => ?_)
    · rw [if_pos c31] at e
      exact V_pick [] rfl (r_X3_readTrunk_b97 h8 e hF)
    · rw [if_neg c31] at e
      refine V_pick [0, 1] rfl ?_
      refine V_aload_n (pc := 43) (i := 1) dX3_readTrunk_43 rfl rfl ?_
      refine V_ldcS (pc := 44) (j := 6) (u := (6 : UInt32)) dX3_readTrunk_44 rfl (by decide) ?_
      obtain ⟨r11, h12, g10, e⟩ := ob2_some e
      obtain ⟨g13, e⟩ := gd_some e
      refine V_callV (pc := 46) (bc := 0) (bs := 0) (mc := 0) (ms := 0) (st := []) (As := [.float (6 : UInt32)]) (a := v1) (h' := h12) (r := some (.int r11)) dX3_readTrunk_46 ml_X3_71 (ci := 6) rfl (of_decide_eq_true g13) rfl rfl (Nat.le_of_ble_eq_true rfl) (d' := 5) (by decide) (c_X6_takeWord (l := x.2.1) v1 (6 : UInt32) h8 g10) ?_
      refine V_if_eq (pc := 49) (tgt := 97) dX3_readTrunk_49 (by decide) (fun c30 => ?_) (fun c30 => ?_)
      · rw [if_pos c30] at e
        exact V_pick [] rfl (r_X3_readTrunk_b97 h12 e hF)
      · rw [if_neg c30] at e
        refine V_pick [0, 1] rfl ?_
        refine V_aload_n (pc := 52) (i := 0) dX3_readTrunk_52 rfl rfl ?_
        refine V_iconst (pc := 53) (v := (2 : Int32)) dX3_readTrunk_53 (by decide) ?_
        refine V_aload_n (pc := 54) (i := 1) dX3_readTrunk_54 rfl rfl ?_
        obtain ⟨g14, e⟩ := gd_some e
        refine V_getI (pc := 55) (ci := 6) (k := 5) dX3_readTrunk_55 fl_X3_91 rfl (of_decide_eq_true g14) ?_
        refine V_sipush (pc := 58) (v := (300 : Int32)) dX3_readTrunk_58 (by decide) ?_
        refine V_aload_n (pc := 61) (i := 1) dX3_readTrunk_61 rfl rfl ?_
        obtain ⟨r16, h17, g15, e⟩ := ob2_some e
        obtain ⟨g18, e⟩ := gd_some e
        refine V_callV (pc := 62) (bc := 0) (bs := 0) (mc := 0) (ms := 0) (st := []) (As := [.int (2 : Int32), .int (zI h12 v1 5), .int (300 : Int32), .ref v1]) (a := v0) (h' := h17) (r := some (.int r16)) dX3_readTrunk_62 ml_X3_65 (ci := 3) rfl (of_decide_eq_true g18) rfl rfl (Nat.le_of_ble_eq_true rfl) (d' := 3) (by decide) (c_X3_keep (l := x.2.1) v0 (2 : Int32) (zI h12 v1 5) (300 : Int32) v1 h12 g15) ?_
        refine V_if_eq (pc := 65) (tgt := 97) dX3_readTrunk_65 (by decide) (fun c29 => ?_) (fun c29 => ?_)
        · rw [if_pos c29] at e
          exact V_pick [] rfl (r_X3_readTrunk_b97 h17 e hF)
        · rw [if_neg c29] at e
          refine V_pick [0, 1] rfl ?_
          refine V_aload_n (pc := 68) (i := 1) dX3_readTrunk_68 rfl rfl ?_
          refine V_ldcS (pc := 69) (j := 4) (u := (4 : UInt32)) dX3_readTrunk_69 rfl (by decide) ?_
          obtain ⟨r20, h21, g19, e⟩ := ob2_some e
          obtain ⟨g22, e⟩ := gd_some e
          refine V_callV (pc := 71) (bc := 0) (bs := 0) (mc := 0) (ms := 0) (st := []) (As := [.float (4 : UInt32)]) (a := v1) (h' := h21) (r := some (.int r20)) dX3_readTrunk_71 ml_X3_71 (ci := 6) rfl (of_decide_eq_true g22) rfl rfl (Nat.le_of_ble_eq_true rfl) (d' := 5) (by decide) (c_X6_takeWord (l := x.2.1) v1 (4 : UInt32) h17 g19) ?_
          refine V_if_eq (pc := 74) (tgt := 97) dX3_readTrunk_74 (by decide) (fun c28 => ?_) (fun c28 => ?_)
          · rw [if_pos c28] at e
            exact V_pick [] rfl (r_X3_readTrunk_b97 h21 e hF)
          · rw [if_neg c28] at e
            refine V_pick [0, 1] rfl ?_
            refine V_aload_n (pc := 77) (i := 0) dX3_readTrunk_77 rfl rfl ?_
            refine V_iconst (pc := 78) (v := (3 : Int32)) dX3_readTrunk_78 (by decide) ?_
            refine V_iconst (pc := 79) (v := (0 : Int32)) dX3_readTrunk_79 (by decide) ?_
            refine V_aload_n (pc := 80) (i := 0) dX3_readTrunk_80 rfl rfl ?_
            obtain ⟨g23, e⟩ := gd_some e
            refine V_getI (pc := 81) (ci := 3) (k := 2) dX3_readTrunk_81 fl_X3_15 rfl (of_decide_eq_true g23) ?_
            refine V_iconst (pc := 84) (v := (1 : Int32)) dX3_readTrunk_84 (by decide) ?_
            refine V_isub (pc := 85) dX3_readTrunk_85 ?_
            refine V_aload_n (pc := 86) (i := 1) dX3_readTrunk_86 rfl rfl ?_
            obtain ⟨r25, h26, g24, e⟩ := ob2_some e
            refine V_callV (pc := 87) (bc := 0) (bs := 0) (mc := 0) (ms := 0) (st := []) (As := [.int (3 : Int32), .int (0 : Int32), .int ((zI h21 v0 2) - (1 : Int32)), .ref v1]) (a := v0) (h' := h26) (r := some (.int r25)) dX3_readTrunk_87 ml_X3_65 (ci := 3) rfl (of_decide_eq_true g23) rfl rfl (Nat.le_of_ble_eq_true rfl) (d' := 3) (by decide) (c_X3_keep (l := x.2.1) v0 (3 : Int32) (0 : Int32) ((zI h21 v0 2) - (1 : Int32)) v1 h21 g24) ?_
            refine V_if_eq (pc := 90) (tgt := 97) dX3_readTrunk_90 (by decide) (fun c27 => ?_) (fun c27 => ?_)
            · rw [if_pos c27] at e
              exact V_pick [] rfl (r_X3_readTrunk_b97 h26 e hF)
            · rw [if_neg c27] at e
              refine V_pick [] rfl ?_
              refine V_iconst (pc := 93) (v := (1 : Int32)) dX3_readTrunk_93 (by decide) ?_
              refine V_goto (pc := 94) (tgt := 98) dX3_readTrunk_94 (by decide) ?_
              exact V_pick [] rfl (r_X3_readTrunk_b98 (1 : Int32) h26 e hF)
  · rw [if_neg c37] at e
    refine V_pick [1] rfl ?_
    refine V_aload_n (pc := 9) (i := 1) dX3_readTrunk_9 rfl rfl ?_
    obtain ⟨r33, h34, g32, e⟩ := ob2_some e
    obtain ⟨g35, e⟩ := gd_some e
    refine V_callV (pc := 10) (bc := 0) (bs := 0) (mc := 0) (ms := 0) (st := []) (As := []) (a := v1) (h' := h34) (r := some (.int r33)) dX3_readTrunk_10 ml_X3_85 (ci := 6) rfl (of_decide_eq_true g35) rfl rfl (Nat.le_of_ble_eq_true rfl) (d' := 0) (by decide) (c_X6_refuse (l := x.2.1) v1 h g32) ?_
    obtain ⟨g36, e⟩ := gd_some e
    cases e
    exact V_zret (pc := 13) dX3_readTrunk_13 (z01 (of_decide_eq_true g36)) hF
def F_X3_readTrunk (v0 : Nat) (v1 : Nat) (h : Hp) : Option (Int32 × Hp) := F_X3_readTrunk_b0 v0 v1 h
theorem c_X3_readTrunk {l : Launch} (v0 : Nat) (v1 : Nat) (h : Hp) {r : Int32} {hz : Hp} (e : F_X3_readTrunk v0 v1 h = some (r, hz)) : Ct l yX3_readTrunk M_X3_readTrunk (some .boolean) 6 [.ref v0, .ref v1] h 0 0 (some (.int r)) hz :=
  Ct_of rfl rfl (fun q => by cases q) (Nat.le_of_ble_eq_true rfl) (fun x _ hF => V_pick [0, 1] rfl (r_X3_readTrunk_b0 v0 v1 h e hF))
theorem dX3_tellTo_0 : decode cX3_tellTo 0 = .ok (.iconst 0, 1) := by decide +kernel
theorem dX3_tellTo_1 : decode cX3_tellTo 1 = .ok (.istore_n 2, 1) := by decide +kernel
theorem dX3_tellTo_2 : decode cX3_tellTo 2 = .ok (.iload_n 2, 1) := by decide +kernel
theorem dX3_tellTo_3 : decode cX3_tellTo 3 = .ok (.aload_n 0, 1) := by decide +kernel
theorem dX3_tellTo_4 : decode cX3_tellTo 4 = .ok (.getfield 105, 3) := by decide +kernel
theorem dX3_tellTo_7 : decode cX3_tellTo 7 = .ok (.if_icmp .ge 53, 3) := by decide +kernel
theorem dX3_tellTo_10 : decode cX3_tellTo 10 = .ok (.iload_n 2, 1) := by decide +kernel
theorem dX3_tellTo_11 : decode cX3_tellTo 11 = .ok (.bipush 14, 2) := by decide +kernel
theorem dX3_tellTo_13 : decode cX3_tellTo 13 = .ok (.if_icmp .ge 47, 3) := by decide +kernel
theorem dX3_tellTo_16 : decode cX3_tellTo 16 = .ok (.iload_n 2, 1) := by decide +kernel
theorem dX3_tellTo_17 : decode cX3_tellTo 17 = .ok (.iconst 4, 1) := by decide +kernel
theorem dX3_tellTo_18 : decode cX3_tellTo 18 = .ok (.imul, 1) := by decide +kernel
theorem dX3_tellTo_19 : decode cX3_tellTo 19 = .ok (.istore_n 3, 1) := by decide +kernel
theorem dX3_tellTo_20 : decode cX3_tellTo 20 = .ok (.aload_n 1, 1) := by decide +kernel
theorem dX3_tellTo_21 : decode cX3_tellTo 21 = .ok (.aload_n 0, 1) := by decide +kernel
theorem dX3_tellTo_22 : decode cX3_tellTo 22 = .ok (.getfield 11, 3) := by decide +kernel
theorem dX3_tellTo_25 : decode cX3_tellTo 25 = .ok (.iload_n 3, 1) := by decide +kernel
theorem dX3_tellTo_26 : decode cX3_tellTo 26 = .ok (.iaload, 1) := by decide +kernel
theorem dX3_tellTo_27 : decode cX3_tellTo 27 = .ok (.aload_n 0, 1) := by decide +kernel
theorem dX3_tellTo_28 : decode cX3_tellTo 28 = .ok (.getfield 11, 3) := by decide +kernel
theorem dX3_tellTo_31 : decode cX3_tellTo 31 = .ok (.iload_n 3, 1) := by decide +kernel
theorem dX3_tellTo_32 : decode cX3_tellTo 32 = .ok (.iconst 1, 1) := by decide +kernel
theorem dX3_tellTo_33 : decode cX3_tellTo 33 = .ok (.iadd, 1) := by decide +kernel
theorem dX3_tellTo_34 : decode cX3_tellTo 34 = .ok (.iaload, 1) := by decide +kernel
theorem dX3_tellTo_35 : decode cX3_tellTo 35 = .ok (.aload_n 0, 1) := by decide +kernel
theorem dX3_tellTo_36 : decode cX3_tellTo 36 = .ok (.getfield 11, 3) := by decide +kernel
theorem dX3_tellTo_39 : decode cX3_tellTo 39 = .ok (.iload_n 3, 1) := by decide +kernel
theorem dX3_tellTo_40 : decode cX3_tellTo 40 = .ok (.iconst 2, 1) := by decide +kernel
theorem dX3_tellTo_41 : decode cX3_tellTo 41 = .ok (.iadd, 1) := by decide +kernel
theorem dX3_tellTo_42 : decode cX3_tellTo 42 = .ok (.iaload, 1) := by decide +kernel
theorem dX3_tellTo_43 : decode cX3_tellTo 43 = .ok (.aload_n 0, 1) := by decide +kernel
theorem dX3_tellTo_44 : decode cX3_tellTo 44 = .ok (.getfield 11, 3) := by decide +kernel
theorem dX3_tellTo_47 : decode cX3_tellTo 47 = .ok (.iload_n 3, 1) := by decide +kernel
theorem dX3_tellTo_48 : decode cX3_tellTo 48 = .ok (.iconst 3, 1) := by decide +kernel
theorem dX3_tellTo_49 : decode cX3_tellTo 49 = .ok (.iadd, 1) := by decide +kernel
theorem dX3_tellTo_50 : decode cX3_tellTo 50 = .ok (.iaload, 1) := by decide +kernel
theorem dX3_tellTo_51 : decode cX3_tellTo 51 = .ok (.invokestatic 108, 3) := by decide +kernel
theorem dX3_tellTo_54 : decode cX3_tellTo 54 = .ok (.iinc 2 1, 3) := by decide +kernel
theorem dX3_tellTo_57 : decode cX3_tellTo 57 = .ok (.goto (-55), 3) := by decide +kernel
theorem dX3_tellTo_60 : decode cX3_tellTo 60 = .ok (.return_, 1) := by decide +kernel
set_option maxRecDepth 100000 in
def F_X3_tellTo_l2 (v0 : Nat) (v1 : Nat) (v2 : Int32) (h : Hp) : Option ((Int32 × Hp) ⊕ Hp) :=
  gd (decide (kd h v0 = 3)) <| (if (zI h v0 0) ≤ v2 then some (.inr h) else (if (14 : Int32) ≤ v2 then some (.inr h) else ob (zR h v0 1) fun q2 => gd (decide (kd h q2 = 13)) <| gd (ix (v2 * (4 : Int32)) (zl h q2)) <| ob (zR h v0 1) fun q6 => gd (decide (kd h q6 = 13)) <| gd (ix ((v2 * (4 : Int32)) + (1 : Int32)) (zl h q6)) <| ob (zR h v0 1) fun q10 => gd (decide (kd h q10 = 13)) <| gd (ix ((v2 * (4 : Int32)) + (2 : Int32)) (zl h q10)) <| ob (zR h v0 1) fun q14 => gd (decide (kd h q14 = 13)) <| gd (ix ((v2 * (4 : Int32)) + (3 : Int32)) (zl h q14)) <| ob2 (F_X3_tellLine v1 (zI h q2 (v2 * (4 : Int32)).toNatClampNeg) (zI h q6 ((v2 * (4 : Int32)) + (1 : Int32)).toNatClampNeg) (zI h q10 ((v2 * (4 : Int32)) + (2 : Int32)).toNatClampNeg) (zI h q14 ((v2 * (4 : Int32)) + (3 : Int32)).toNatClampNeg) h) fun _ h20 => some (.inl (v2 + (1 : Int32), h20))))
set_option maxHeartbeats 4000000 in
set_option maxRecDepth 100000 in
theorem r_X3_tellTo_l2 (v0 : Nat) (v1 : Nat) (v2 : Int32) (h : Hp) {x : Cx} {o : ((Int32 × Hp) ⊕ Hp)} (e : F_X3_tellTo_l2 v0 v1 v2 h = some o) (kI : ∀ z, o = .inl z → V M_X3_tellTo x 2 2 [(0, .ref v0), (1, .ref v1), (2, .int z.1)] [] z.2 0 0) (kE60 : ∀ z : Hp, o = .inr z → V M_X3_tellTo x 2 60 [] [] z 0 0) : V M_X3_tellTo x 2 2 [(0, .ref v0), (1, .ref v1), (2, .int v2)] [] h 0 0 := by
  unfold F_X3_tellTo_l2 at e
  refine V_iload_n (pc := 2) (i := 2) dX3_tellTo_2 rfl rfl ?_
  refine V_aload_n (pc := 3) (i := 0) dX3_tellTo_3 rfl rfl ?_
  obtain ⟨g1, e⟩ := gd_some e
  refine V_getI (pc := 4) (ci := 3) (k := 0) dX3_tellTo_4 fl_X3_105 rfl (of_decide_eq_true g1) ?_
  refine V_icmp_ge (pc := 7) (tgt := 60) dX3_tellTo_7 (by decide) (fun c22 => ?_) (fun c22 => ?_)
  · rw [if_pos c22] at e
    cases e
    exact V_pick [] rfl (kE60 _ rfl)
  · rw [if_neg c22] at e
    refine V_pick [0, 1, 2] rfl ?_
    refine V_iload_n (pc := 10) (i := 2) dX3_tellTo_10 rfl rfl ?_
    refine V_bipush (pc := 11) (v := (14 : Int32)) dX3_tellTo_11 (by decide) ?_
    refine V_icmp_ge (pc := 13) (tgt := 60) dX3_tellTo_13 (by decide) (fun c21 => ?_) (fun c21 => ?_)
    · rw [if_pos c21] at e
      cases e
      exact V_pick [] rfl (kE60 _ rfl)
    · rw [if_neg c21] at e
      refine V_pick [0, 1, 2] rfl ?_
      refine V_iload_n (pc := 16) (i := 2) dX3_tellTo_16 rfl rfl ?_
      refine V_iconst (pc := 17) (v := (4 : Int32)) dX3_tellTo_17 (by decide) ?_
      refine V_imul (pc := 18) dX3_tellTo_18 ?_
      refine V_istore_n (pc := 19) (i := 3) (lv' := [(3, .int (v2 * (4 : Int32))), (0, .ref v0), (1, .ref v1), (2, .int v2)]) dX3_tellTo_19 rfl (by decide) rfl ?_
      refine V_aload_n (pc := 20) (i := 1) dX3_tellTo_20 rfl rfl ?_
      refine V_aload_n (pc := 21) (i := 0) dX3_tellTo_21 rfl rfl ?_
      obtain ⟨q2, g3, e⟩ := ob_some e
      refine V_getR (pc := 22) (ci := 3) (k := 1) (b := q2) dX3_tellTo_22 fl_X3_11 rfl (of_decide_eq_true g1) g3 ?_
      refine V_iload_n (pc := 25) (i := 3) dX3_tellTo_25 rfl rfl ?_
      obtain ⟨g4, e⟩ := gd_some e
      obtain ⟨g5, e⟩ := gd_some e
      refine V_iald (pc := 26) dX3_tellTo_26 (of_decide_eq_true g4) (ix_in g5) ?_
      refine V_aload_n (pc := 27) (i := 0) dX3_tellTo_27 rfl rfl ?_
      obtain ⟨q6, g7, e⟩ := ob_some e
      refine V_getR (pc := 28) (ci := 3) (k := 1) (b := q6) dX3_tellTo_28 fl_X3_11 rfl (of_decide_eq_true g1) g7 ?_
      refine V_iload_n (pc := 31) (i := 3) dX3_tellTo_31 rfl rfl ?_
      refine V_iconst (pc := 32) (v := (1 : Int32)) dX3_tellTo_32 (by decide) ?_
      refine V_iadd (pc := 33) dX3_tellTo_33 ?_
      obtain ⟨g8, e⟩ := gd_some e
      obtain ⟨g9, e⟩ := gd_some e
      refine V_iald (pc := 34) dX3_tellTo_34 (of_decide_eq_true g8) (ix_in g9) ?_
      refine V_aload_n (pc := 35) (i := 0) dX3_tellTo_35 rfl rfl ?_
      obtain ⟨q10, g11, e⟩ := ob_some e
      refine V_getR (pc := 36) (ci := 3) (k := 1) (b := q10) dX3_tellTo_36 fl_X3_11 rfl (of_decide_eq_true g1) g11 ?_
      refine V_iload_n (pc := 39) (i := 3) dX3_tellTo_39 rfl rfl ?_
      refine V_iconst (pc := 40) (v := (2 : Int32)) dX3_tellTo_40 (by decide) ?_
      refine V_iadd (pc := 41) dX3_tellTo_41 ?_
      obtain ⟨g12, e⟩ := gd_some e
      obtain ⟨g13, e⟩ := gd_some e
      refine V_iald (pc := 42) dX3_tellTo_42 (of_decide_eq_true g12) (ix_in g13) ?_
      refine V_aload_n (pc := 43) (i := 0) dX3_tellTo_43 rfl rfl ?_
      obtain ⟨q14, g15, e⟩ := ob_some e
      refine V_getR (pc := 44) (ci := 3) (k := 1) (b := q14) dX3_tellTo_44 fl_X3_11 rfl (of_decide_eq_true g1) g15 ?_
      refine V_iload_n (pc := 47) (i := 3) dX3_tellTo_47 rfl rfl ?_
      refine V_iconst (pc := 48) (v := (3 : Int32)) dX3_tellTo_48 (by decide) ?_
      refine V_iadd (pc := 49) dX3_tellTo_49 ?_
      obtain ⟨g16, e⟩ := gd_some e
      obtain ⟨g17, e⟩ := gd_some e
      refine V_iald (pc := 50) dX3_tellTo_50 (of_decide_eq_true g16) (ix_in g17) ?_
      obtain ⟨r19, h20, g18, e⟩ := ob2_some e
      refine V_callS (pc := 51) (bc := 0) (bs := 0) (mc := 0) (ms := 0) (st := []) (As := [.ref v1, .int (zI h q2 (v2 * (4 : Int32)).toNatClampNeg), .int (zI h q6 ((v2 * (4 : Int32)) + (1 : Int32)).toNatClampNeg), .int (zI h q10 ((v2 * (4 : Int32)) + (2 : Int32)).toNatClampNeg), .int (zI h q14 ((v2 * (4 : Int32)) + (3 : Int32)).toNatClampNeg)]) (h' := h20) (r := none) dX3_tellTo_51 ml_X3_108 rfl rfl (Nat.le_of_ble_eq_true rfl) (d' := 1) (by decide) (c_X3_tellLine (l := x.2.1) v1 (zI h q2 (v2 * (4 : Int32)).toNatClampNeg) (zI h q6 ((v2 * (4 : Int32)) + (1 : Int32)).toNatClampNeg) (zI h q10 ((v2 * (4 : Int32)) + (2 : Int32)).toNatClampNeg) (zI h q14 ((v2 * (4 : Int32)) + (3 : Int32)).toNatClampNeg) h g18) ?_
      refine V_iinc (pc := 54) (i := 2) (u := v2 + (1 : Int32)) (lv' := [(2, .int (v2 + (1 : Int32))), (3, .int (v2 * (4 : Int32))), (0, .ref v0), (1, .ref v1)]) dX3_tellTo_54 rfl rfl (by decide) rfl ?_
      refine V_goto (pc := 57) (tgt := 2) dX3_tellTo_57 (by decide) ?_
      cases e
      exact V_pick [2, 3, 0] rfl (kI _ rfl)
set_option maxRecDepth 100000 in
def F_X3_tellTo_b60  (h : Hp) : Option (Unit × Hp) :=
  some ((), h)
set_option maxHeartbeats 4000000 in
set_option maxRecDepth 100000 in
theorem r_X3_tellTo_b60  (h : Hp) {x : Cx} {r : Unit} {hz : Hp} (e : F_X3_tellTo_b60  h = some (r, hz)) (hF : Fin9 M_X3_tellTo x none none hz) : V M_X3_tellTo x 2 60 [] [] h 0 0 := by
  unfold F_X3_tellTo_b60 at e
  cases e
  exact V_vret (pc := 60) dX3_tellTo_60 hF
set_option maxRecDepth 100000 in
def F_X3_tellTo_b0 (v0 : Nat) (v1 : Nat) (h : Hp) : Option (Unit × Hp) :=
  ob (iter (fun z : Int32 × Hp => F_X3_tellTo_l2 v0 v1 z.1 z.2) FU ((0 : Int32), h)) (fun h23 => F_X3_tellTo_b60 h23)
set_option maxHeartbeats 4000000 in
set_option maxRecDepth 100000 in
theorem r_X3_tellTo_b0 (v0 : Nat) (v1 : Nat) (h : Hp) {x : Cx} {r : Unit} {hz : Hp} (e : F_X3_tellTo_b0 v0 v1 h = some (r, hz)) (hF : Fin9 M_X3_tellTo x none none hz) : V M_X3_tellTo x 2 0 [(0, .ref v0), (1, .ref v1)] [] h 0 0 := by
  unfold F_X3_tellTo_b0 at e
  refine V_iconst (pc := 0) (v := (0 : Int32)) dX3_tellTo_0 (by decide) ?_
  refine V_istore_n (pc := 1) (i := 2) (lv' := [(2, .int (0 : Int32)), (0, .ref v0), (1, .ref v1)]) dX3_tellTo_1 rfl (by decide) rfl ?_
  refine V_pick [1, 2, 0] rfl ?_
  obtain ⟨y24, g25, e⟩ := ob_some e
  refine iter_V (P := fun z : Int32 × Hp => V M_X3_tellTo x 2 2 [(0, .ref v0), (1, .ref v1), (2, .int z.1)] [] z.2 0 0) (E := fun z : Hp => V M_X3_tellTo x 2 60 [] [] z 0 0) (fun z o e9 k1 k2 => r_X3_tellTo_l2 v0 v1 z.1 z.2 e9 (fun z hz9 => k1 z hz9) (fun z hz9 => k2 _ hz9)) _ _ _ g25 ?_
  clear g25
  obtain ⟨h23, rfl⟩ : ∃ q, q = y24 := ⟨_, rfl⟩
  replace e : (F_X3_tellTo_b60 h23) = some (r, hz) := e
  show V M_X3_tellTo x 2 60 [] [] h23 0 0
  exact V_pick [] rfl (r_X3_tellTo_b60 h23 e hF)
def F_X3_tellTo (v0 : Nat) (v1 : Nat) (h : Hp) : Option (Unit × Hp) := F_X3_tellTo_b0 v0 v1 h
theorem c_X3_tellTo {l : Launch} (v0 : Nat) (v1 : Nat) (h : Hp) {r : Unit} {hz : Hp} (e : F_X3_tellTo v0 v1 h = some (r, hz)) : Ct l yX3_tellTo M_X3_tellTo none 2 [.ref v0, .ref v1] h 0 0 none hz :=
  Ct_of rfl rfl (fun q => by cases q) (Nat.le_of_ble_eq_true rfl) (fun x _ hF => V_pick [0, 1] rfl (r_X3_tellTo_b0 v0 v1 h e hF))
theorem dX4_bellAt_0 : decode cX4_bellAt 0 = .ok (.aload_n 2, 1) := by decide +kernel
theorem dX4_bellAt_1 : decode cX4_bellAt 1 = .ok (.aload_n 2, 1) := by decide +kernel
theorem dX4_bellAt_2 : decode cX4_bellAt 2 = .ok (.getfield 22, 3) := by decide +kernel
theorem dX4_bellAt_5 : decode cX4_bellAt 5 = .ok (.invokevirtual 27, 3) := by decide +kernel
theorem dX4_bellAt_8 : decode cX4_bellAt 8 = .ok (.istore_n 3, 1) := by decide +kernel
theorem dX4_bellAt_9 : decode cX4_bellAt 9 = .ok (.iconst (-1), 1) := by decide +kernel
theorem dX4_bellAt_10 : decode cX4_bellAt 10 = .ok (.istore 4, 2) := by decide +kernel
theorem dX4_bellAt_12 : decode cX4_bellAt 12 = .ok (.iconst 0, 1) := by decide +kernel
theorem dX4_bellAt_13 : decode cX4_bellAt 13 = .ok (.istore 5, 2) := by decide +kernel
theorem dX4_bellAt_15 : decode cX4_bellAt 15 = .ok (.iload 5, 2) := by decide +kernel
theorem dX4_bellAt_17 : decode cX4_bellAt 17 = .ok (.iload_n 1, 1) := by decide +kernel
theorem dX4_bellAt_18 : decode cX4_bellAt 18 = .ok (.if_icmp .gt 47, 3) := by decide +kernel
theorem dX4_bellAt_21 : decode cX4_bellAt 21 = .ok (.iload 5, 2) := by decide +kernel
theorem dX4_bellAt_23 : decode cX4_bellAt 23 = .ok (.ldc 59, 2) := by decide +kernel
theorem dX4_bellAt_25 : decode cX4_bellAt 25 = .ok (.if_icmp .ge 40, 3) := by decide +kernel
theorem dX4_bellAt_28 : decode cX4_bellAt 28 = .ok (.aload_n 0, 1) := by decide +kernel
theorem dX4_bellAt_29 : decode cX4_bellAt 29 = .ok (.iload_n 3, 1) := by decide +kernel
theorem dX4_bellAt_30 : decode cX4_bellAt 30 = .ok (.aload_n 2, 1) := by decide +kernel
theorem dX4_bellAt_31 : decode cX4_bellAt 31 = .ok (.invokevirtual 60, 3) := by decide +kernel
theorem dX4_bellAt_34 : decode cX4_bellAt 34 = .ok (.istore 4, 2) := by decide +kernel
theorem dX4_bellAt_36 : decode cX4_bellAt 36 = .ok (.iload 4, 2) := by decide +kernel
theorem dX4_bellAt_38 : decode cX4_bellAt 38 = .ok (.iconst (-1), 1) := by decide +kernel
theorem dX4_bellAt_39 : decode cX4_bellAt 39 = .ok (.if_icmp .ne 5, 3) := by decide +kernel
theorem dX4_bellAt_42 : decode cX4_bellAt 42 = .ok (.iconst (-1), 1) := by decide +kernel
theorem dX4_bellAt_43 : decode cX4_bellAt 43 = .ok (.ireturn, 1) := by decide +kernel
theorem dX4_bellAt_44 : decode cX4_bellAt 44 = .ok (.iload_n 3, 1) := by decide +kernel
theorem dX4_bellAt_45 : decode cX4_bellAt 45 = .ok (.iload 4, 2) := by decide +kernel
theorem dX4_bellAt_47 : decode cX4_bellAt 47 = .ok (.bipush 8, 2) := by decide +kernel
theorem dX4_bellAt_49 : decode cX4_bellAt 49 = .ok (.idiv, 1) := by decide +kernel
theorem dX4_bellAt_50 : decode cX4_bellAt 50 = .ok (.iload 4, 2) := by decide +kernel
theorem dX4_bellAt_52 : decode cX4_bellAt 52 = .ok (.bipush 8, 2) := by decide +kernel
theorem dX4_bellAt_54 : decode cX4_bellAt 54 = .ok (.irem, 1) := by decide +kernel
theorem dX4_bellAt_55 : decode cX4_bellAt 55 = .ok (.invokestatic 64, 3) := by decide +kernel
theorem dX4_bellAt_58 : decode cX4_bellAt 58 = .ok (.istore_n 3, 1) := by decide +kernel
theorem dX4_bellAt_59 : decode cX4_bellAt 59 = .ok (.iinc 5 1, 3) := by decide +kernel
theorem dX4_bellAt_62 : decode cX4_bellAt 62 = .ok (.goto (-47), 3) := by decide +kernel
theorem dX4_bellAt_65 : decode cX4_bellAt 65 = .ok (.iload 4, 2) := by decide +kernel
theorem dX4_bellAt_67 : decode cX4_bellAt 67 = .ok (.ireturn, 1) := by decide +kernel
set_option maxRecDepth 100000 in
def F_X4_bellAt_l15 (v0 : Nat) (v1 : Int32) (v2 : Nat) (v3 : Int32) (v4 : Int32) (v5 : Int32) (h : Hp) : Option ((Int32 × Int32 × Int32) ⊕ (Int32 ⊕ Unit)) :=
  (if v1 < v5 then some (.inr (.inl v4)) else (if (32768 : Int32) ≤ v5 then some (.inr (.inl v4)) else ob (F_X4_firstBell v0 v3 v2 h) fun r7 => gd (decide (kd h v0 = 4)) <| (if r7 = (-1 : Int32) then some (.inr (.inr ())) else ob (F_X4_sent v3 (r7 / (8 : Int32)) (r7 - r7 / (8 : Int32) * (8 : Int32)) h) fun r10 => some (.inl (r10, r7, v5 + (1 : Int32))))))
set_option maxHeartbeats 4000000 in
set_option maxRecDepth 100000 in
theorem r_X4_bellAt_l15 (v0 : Nat) (v1 : Int32) (v2 : Nat) (v3 : Int32) (v4 : Int32) (v5 : Int32) (h : Hp) {x : Cx} {o : ((Int32 × Int32 × Int32) ⊕ (Int32 ⊕ Unit))} (e : F_X4_bellAt_l15 v0 v1 v2 v3 v4 v5 h = some o) (kI : ∀ z, o = .inl z → V M_X4_bellAt x 2 15 [(0, .ref v0), (1, .int v1), (2, .ref v2), (3, .int z.1), (4, .int z.2.1), (5, .int z.2.2)] [] h 0 0) (kE65 : ∀ z : Int32, o = .inr (.inl z) → V M_X4_bellAt x 2 65 [(4, .int z)] [] h 0 0) (kE42 : ∀ z : Unit, o = .inr (.inr z) → V M_X4_bellAt x 2 42 [] [] h 0 0) : V M_X4_bellAt x 2 15 [(0, .ref v0), (1, .int v1), (2, .ref v2), (3, .int v3), (4, .int v4), (5, .int v5)] [] h 0 0 := by
  unfold F_X4_bellAt_l15 at e
  refine V_iload (pc := 15) (i := 5) dX4_bellAt_15 rfl ?_
  refine V_iload_n (pc := 17) (i := 1) dX4_bellAt_17 rfl rfl ?_
  refine V_icmp_gt (pc := 18) (tgt := 65) dX4_bellAt_18 (by decide) (fun c13 => ?_) (fun c13 => ?_)
  · rw [if_pos c13] at e
    cases e
    exact V_pick [4] rfl (kE65 _ rfl)
  · rw [if_neg c13] at e
    refine V_pick [0, 1, 2, 3, 4, 5] rfl ?_
    refine V_iload (pc := 21) (i := 5) dX4_bellAt_21 rfl ?_
    refine V_ldc (pc := 23) (v := (32768 : Int32)) dX4_bellAt_23 (wk_X4_59) ?_
    refine V_icmp_ge (pc := 25) (tgt := 65) dX4_bellAt_25 (by decide) (fun c12 => ?_) (fun c12 => ?_)
    · rw [if_pos c12] at e
      cases e
      exact V_pick [4] rfl (kE65 _ rfl)
    · rw [if_neg c12] at e
      refine V_pick [0, 1, 2, 3, 5] rfl ?_
      refine V_aload_n (pc := 28) (i := 0) dX4_bellAt_28 rfl rfl ?_
      refine V_iload_n (pc := 29) (i := 3) dX4_bellAt_29 rfl rfl ?_
      refine V_aload_n (pc := 30) (i := 2) dX4_bellAt_30 rfl rfl ?_
      obtain ⟨r7, g6, e⟩ := ob_some e
      obtain ⟨g8, e⟩ := gd_some e
      refine V_callV (pc := 31) (bc := 0) (bs := 0) (mc := 0) (ms := 0) (st := []) (As := [.int v3, .ref v2]) (a := v0) (h' := h) (r := some (.int r7)) dX4_bellAt_31 ml_X4_60 (ci := 4) rfl (of_decide_eq_true g8) rfl rfl (Nat.le_of_ble_eq_true rfl) (d' := 1) (by decide) (c_X4_firstBell (l := x.2.1) v0 v3 v2 h g6) ?_
      refine V_istore (pc := 34) (i := 4) (lv' := [(4, .int r7), (0, .ref v0), (1, .int v1), (2, .ref v2), (3, .int v3), (5, .int v5)]) dX4_bellAt_34 (by decide) rfl ?_
      refine V_iload (pc := 36) (i := 4) dX4_bellAt_36 rfl ?_
      refine V_iconst (pc := 38) (v := (-1 : Int32)) dX4_bellAt_38 (by decide) ?_
      refine V_icmp_ne (pc := 39) (tgt := 44) dX4_bellAt_39 (by decide) (fun c11 => ?_) (fun c11 => ?_)
      · rw [if_neg c11] at e
        refine V_pick [1, 2, 3, 4, 0, 5] rfl ?_
        refine V_iload_n (pc := 44) (i := 3) dX4_bellAt_44 rfl rfl ?_
        refine V_iload (pc := 45) (i := 4) dX4_bellAt_45 rfl ?_
        refine V_bipush (pc := 47) (v := (8 : Int32)) dX4_bellAt_47 (by decide) ?_
        refine V_idiv (pc := 49) dX4_bellAt_49 (by decide) ?_
        refine V_iload (pc := 50) (i := 4) dX4_bellAt_50 rfl ?_
        refine V_bipush (pc := 52) (v := (8 : Int32)) dX4_bellAt_52 (by decide) ?_
        refine V_irem (pc := 54) dX4_bellAt_54 (by decide) ?_
        obtain ⟨r10, g9, e⟩ := ob_some e
        refine V_callS (pc := 55) (bc := 0) (bs := 0) (mc := 0) (ms := 0) (st := []) (As := [.int v3, .int (r7 / (8 : Int32)), .int (r7 - r7 / (8 : Int32) * (8 : Int32))]) (h' := h) (r := some (.int r10)) dX4_bellAt_55 ml_X4_64 rfl rfl (Nat.le_of_ble_eq_true rfl) (d' := 0) (by decide) (c_X4_sent (l := x.2.1) v3 (r7 / (8 : Int32)) (r7 - r7 / (8 : Int32) * (8 : Int32)) h g9) ?_
        refine V_istore_n (pc := 58) (i := 3) (lv' := [(3, .int r10), (0, .ref v0), (1, .int v1), (2, .ref v2), (4, .int r7), (5, .int v5)]) dX4_bellAt_58 rfl (by decide) rfl ?_
        refine V_iinc (pc := 59) (i := 5) (u := v5 + (1 : Int32)) (lv' := [(5, .int (v5 + (1 : Int32))), (3, .int r10), (0, .ref v0), (1, .int v1), (2, .ref v2), (4, .int r7)]) dX4_bellAt_59 rfl rfl (by decide) rfl ?_
        refine V_goto (pc := 62) (tgt := 15) dX4_bellAt_62 (by decide) ?_
        cases e
        exact V_pick [2, 3, 4, 1, 5, 0] rfl (kI _ rfl)
      · rw [if_pos c11] at e
        cases e
        exact V_pick [] rfl (kE42 _ rfl)
set_option maxRecDepth 100000 in
def F_X4_bellAt_b65 (v4 : Int32) (h : Hp) : Option Int32 :=
  some v4
set_option maxHeartbeats 4000000 in
set_option maxRecDepth 100000 in
theorem r_X4_bellAt_b65 (v4 : Int32) (h : Hp) {x : Cx} {r : Int32} (e : F_X4_bellAt_b65 v4 h = some r) (hF : Fin9 M_X4_bellAt x (some .int) (some (.int r)) h) : V M_X4_bellAt x 2 65 [(4, .int v4)] [] h 0 0 := by
  unfold F_X4_bellAt_b65 at e
  refine V_iload (pc := 65) (i := 4) dX4_bellAt_65 rfl ?_
  cases e
  exact V_iret (pc := 67) dX4_bellAt_67 hF
set_option maxRecDepth 100000 in
def F_X4_bellAt_b0 (v0 : Nat) (v1 : Int32) (v2 : Nat) (h : Hp) : Option Int32 :=
  gd (decide (kd h v2 = 2)) <| ob (zR h v2 7) fun q2 => ob (F_X2_asNumber v2 q2 h) fun r5 => ob (iter (fun z : Int32 × Int32 × Int32 => F_X4_bellAt_l15 v0 v1 v2 z.1 z.2.1 z.2.2 h) FU (r5, (-1 : Int32), (0 : Int32))) (fun z => sm z (fun w14 => F_X4_bellAt_b65 w14 h) (fun _ => some (-1 : Int32)))
set_option maxHeartbeats 4000000 in
set_option maxRecDepth 100000 in
theorem r_X4_bellAt_b0 (v0 : Nat) (v1 : Int32) (v2 : Nat) (h : Hp) {x : Cx} {r : Int32} (e : F_X4_bellAt_b0 v0 v1 v2 h = some r) (hF : Fin9 M_X4_bellAt x (some .int) (some (.int r)) h) : V M_X4_bellAt x 2 0 [(0, .ref v0), (1, .int v1), (2, .ref v2)] [] h 0 0 := by
  unfold F_X4_bellAt_b0 at e
  refine V_aload_n (pc := 0) (i := 2) dX4_bellAt_0 rfl rfl ?_
  refine V_aload_n (pc := 1) (i := 2) dX4_bellAt_1 rfl rfl ?_
  obtain ⟨g1, e⟩ := gd_some e
  obtain ⟨q2, g3, e⟩ := ob_some e
  refine V_getR (pc := 2) (ci := 2) (k := 7) (b := q2) dX4_bellAt_2 fl_X4_22 rfl (of_decide_eq_true g1) g3 ?_
  obtain ⟨r5, g4, e⟩ := ob_some e
  refine V_callV (pc := 5) (bc := 0) (bs := 0) (mc := 0) (ms := 0) (st := []) (As := [.ref q2]) (a := v2) (h' := h) (r := some (.int r5)) dX4_bellAt_5 ml_X4_27 (ci := 2) rfl (of_decide_eq_true g1) rfl rfl (Nat.le_of_ble_eq_true rfl) (d' := 0) (by decide) (c_X2_asNumber (l := x.2.1) v2 q2 h g4) ?_
  refine V_istore_n (pc := 8) (i := 3) (lv' := [(3, .int r5), (0, .ref v0), (1, .int v1), (2, .ref v2)]) dX4_bellAt_8 rfl (by decide) rfl ?_
  refine V_iconst (pc := 9) (v := (-1 : Int32)) dX4_bellAt_9 (by decide) ?_
  refine V_istore (pc := 10) (i := 4) (lv' := [(4, .int (-1 : Int32)), (3, .int r5), (0, .ref v0), (1, .int v1), (2, .ref v2)]) dX4_bellAt_10 (by decide) rfl ?_
  refine V_iconst (pc := 12) (v := (0 : Int32)) dX4_bellAt_12 (by decide) ?_
  refine V_istore (pc := 13) (i := 5) (lv' := [(5, .int (0 : Int32)), (4, .int (-1 : Int32)), (3, .int r5), (0, .ref v0), (1, .int v1), (2, .ref v2)]) dX4_bellAt_13 (by decide) rfl ?_
  refine V_pick [3, 4, 5, 2, 1, 0] rfl ?_
  obtain ⟨y15, g16, e⟩ := ob_some e
  refine iter_V (P := fun z : Int32 × Int32 × Int32 => V M_X4_bellAt x 2 15 [(0, .ref v0), (1, .int v1), (2, .ref v2), (3, .int z.1), (4, .int z.2.1), (5, .int z.2.2)] [] h 0 0) (E := fun z => Sum.elim (fun z : Int32 => V M_X4_bellAt x 2 65 [(4, .int z)] [] h 0 0) (fun z : Unit => V M_X4_bellAt x 2 42 [] [] h 0 0) z) (fun z o e9 k1 k2 => r_X4_bellAt_l15 v0 v1 v2 z.1 z.2.1 z.2.2 h e9 (fun z hz9 => k1 z hz9) (fun z hz9 => k2 _ hz9) (fun z hz9 => k2 _ hz9)) _ _ _ g16 ?_
  clear g16
  rcases y15 with y17 | y18
  · obtain ⟨w14, rfl⟩ : ∃ q, q = y17 := ⟨_, rfl⟩
    replace e : (F_X4_bellAt_b65 w14 h) = some r := e
    show V M_X4_bellAt x 2 65 [(4, .int w14)] [] h 0 0
    exact V_pick [0] rfl (r_X4_bellAt_b65 w14 h e hF)
  · replace e : (some (-1 : Int32)) = some r := e
    show V M_X4_bellAt x 2 42 [] [] h 0 0
    refine V_iconst (pc := 42) (v := (-1 : Int32)) dX4_bellAt_42 (by decide) ?_
    cases e
    exact V_iret (pc := 43) dX4_bellAt_43 hF
def F_X4_bellAt (v0 : Nat) (v1 : Int32) (v2 : Nat) (h : Hp) : Option Int32 := F_X4_bellAt_b0 v0 v1 v2 h
theorem c_X4_bellAt {l : Launch} (v0 : Nat) (v1 : Int32) (v2 : Nat) (h : Hp) {r : Int32} (e : F_X4_bellAt v0 v1 v2 h = some r) : Ct l yX4_bellAt M_X4_bellAt (some .int) 2 [.ref v0, .int v1, .ref v2] h 0 0 (some (.int r)) h :=
  Ct_of rfl rfl (fun q => by cases q) (Nat.le_of_ble_eq_true rfl) (fun x _ hF => V_pick [0, 1, 2] rfl (r_X4_bellAt_b0 v0 v1 v2 h e hF))
theorem dX4_openLevel_0 : decode cX4_openLevel 0 = .ok (.iconst 0, 1) := by decide +kernel
theorem dX4_openLevel_1 : decode cX4_openLevel 1 = .ok (.istore 4, 2) := by decide +kernel
theorem dX4_openLevel_3 : decode cX4_openLevel 3 = .ok (.iload 4, 2) := by decide +kernel
theorem dX4_openLevel_5 : decode cX4_openLevel 5 = .ok (.ldc 59, 2) := by decide +kernel
theorem dX4_openLevel_7 : decode cX4_openLevel 7 = .ok (.if_icmp .ge 54, 3) := by decide +kernel
theorem dX4_openLevel_10 : decode cX4_openLevel 10 = .ok (.aload_n 3, 1) := by decide +kernel
theorem dX4_openLevel_11 : decode cX4_openLevel 11 = .ok (.aload_n 2, 1) := by decide +kernel
theorem dX4_openLevel_12 : decode cX4_openLevel 12 = .ok (.invokevirtual 81, 3) := by decide +kernel
theorem dX4_openLevel_15 : decode cX4_openLevel 15 = .ok (.ifCond .eq 46, 3) := by decide +kernel
theorem dX4_openLevel_18 : decode cX4_openLevel 18 = .ok (.iload_n 1, 1) := by decide +kernel
theorem dX4_openLevel_19 : decode cX4_openLevel 19 = .ok (.aload_n 2, 1) := by decide +kernel
theorem dX4_openLevel_20 : decode cX4_openLevel 20 = .ok (.aload_n 3, 1) := by decide +kernel
theorem dX4_openLevel_21 : decode cX4_openLevel 21 = .ok (.getfield 85, 3) := by decide +kernel
theorem dX4_openLevel_24 : decode cX4_openLevel 24 = .ok (.invokevirtual 27, 3) := by decide +kernel
theorem dX4_openLevel_27 : decode cX4_openLevel 27 = .ok (.iadd, 1) := by decide +kernel
theorem dX4_openLevel_28 : decode cX4_openLevel 28 = .ok (.istore 5, 2) := by decide +kernel
theorem dX4_openLevel_30 : decode cX4_openLevel 30 = .ok (.aload_n 3, 1) := by decide +kernel
theorem dX4_openLevel_31 : decode cX4_openLevel 31 = .ok (.invokevirtual 86, 3) := by decide +kernel
theorem dX4_openLevel_34 : decode cX4_openLevel 34 = .ok (.ifCond .eq 21, 3) := by decide +kernel
theorem dX4_openLevel_37 : decode cX4_openLevel 37 = .ok (.iload 5, 2) := by decide +kernel
theorem dX4_openLevel_39 : decode cX4_openLevel 39 = .ok (.aload_n 0, 1) := by decide +kernel
theorem dX4_openLevel_40 : decode cX4_openLevel 40 = .ok (.getfield 9, 3) := by decide +kernel
theorem dX4_openLevel_43 : decode cX4_openLevel 43 = .ok (.arraylength, 1) := by decide +kernel
theorem dX4_openLevel_44 : decode cX4_openLevel 44 = .ok (.if_icmp .ge 11, 3) := by decide +kernel
theorem dX4_openLevel_47 : decode cX4_openLevel 47 = .ok (.aload_n 0, 1) := by decide +kernel
theorem dX4_openLevel_48 : decode cX4_openLevel 48 = .ok (.getfield 9, 3) := by decide +kernel
theorem dX4_openLevel_51 : decode cX4_openLevel 51 = .ok (.iload 5, 2) := by decide +kernel
theorem dX4_openLevel_53 : decode cX4_openLevel 53 = .ok (.iconst (-1), 1) := by decide +kernel
theorem dX4_openLevel_54 : decode cX4_openLevel 54 = .ok (.iastore, 1) := by decide +kernel
theorem dX4_openLevel_55 : decode cX4_openLevel 55 = .ok (.iinc 4 1, 3) := by decide +kernel
theorem dX4_openLevel_58 : decode cX4_openLevel 58 = .ok (.goto (-55), 3) := by decide +kernel
theorem dX4_openLevel_61 : decode cX4_openLevel 61 = .ok (.return_, 1) := by decide +kernel
set_option maxRecDepth 100000 in
def F_X4_openLevel_b55 (v0 : Nat) (v1 : Int32) (v2 : Nat) (v3 : Nat) (v4 : Int32) (h : Hp) : Option ((Int32 × Hp) ⊕ Hp) :=
  some (.inl (v4 + (1 : Int32), h))
set_option maxHeartbeats 4000000 in
set_option maxRecDepth 100000 in
theorem r_X4_openLevel_b55 (v0 : Nat) (v1 : Int32) (v2 : Nat) (v3 : Nat) (v4 : Int32) (h : Hp) {x : Cx} {o : ((Int32 × Hp) ⊕ Hp)} (e : F_X4_openLevel_b55 v0 v1 v2 v3 v4 h = some o) (kI : ∀ z, o = .inl z → V M_X4_openLevel x 2 3 [(0, .ref v0), (1, .int v1), (2, .ref v2), (3, .ref v3), (4, .int z.1)] [] z.2 0 0) (kE61 : ∀ z : Hp, o = .inr z → V M_X4_openLevel x 2 61 [] [] z 0 0) : V M_X4_openLevel x 2 55 [(0, .ref v0), (1, .int v1), (2, .ref v2), (3, .ref v3), (4, .int v4)] [] h 0 0 := by
  unfold F_X4_openLevel_b55 at e
  refine V_iinc (pc := 55) (i := 4) (u := v4 + (1 : Int32)) (lv' := [(4, .int (v4 + (1 : Int32))), (0, .ref v0), (1, .int v1), (2, .ref v2), (3, .ref v3)]) dX4_openLevel_55 rfl rfl (by decide) rfl ?_
  refine V_goto (pc := 58) (tgt := 3) dX4_openLevel_58 (by decide) ?_
  cases e
  exact V_pick [1, 2, 3, 4, 0] rfl (kI _ rfl)
set_option maxRecDepth 100000 in
def F_X4_openLevel_l3 (v0 : Nat) (v1 : Int32) (v2 : Nat) (v3 : Nat) (v4 : Int32) (h : Hp) : Option ((Int32 × Hp) ⊕ Hp) :=
  (if (32768 : Int32) ≤ v4 then some (.inr h) else ob2 (F_X9_advance v3 v2 h) fun r2 h3 => gd (decide (kd h v3 = 8)) <| (if r2 = 0 then some (.inr h3) else gd (decide (kd h3 v3 = 8)) <| ob (zR h3 v3 0) fun q6 => ob (F_X2_asNumber v2 q6 h3) fun r9 => gd (decide (kd h3 v2 = 2)) <| ob (F_X9_isLevelNow v3 h3) fun r12 => (if r12 = 0 then F_X4_openLevel_b55 v0 v1 v2 v3 v4 h3 else gd (decide (kd h3 v0 = 4)) <| ob (zR h3 v0 0) fun q14 => gd (decide (kd h3 q14 = 13)) <| (if (Int32.ofNat (zl h3 q14)) ≤ (v1 + r9) then F_X4_openLevel_b55 v0 v1 v2 v3 v4 h3 else ob (zR h3 v0 0) fun q17 => gd (decide (kd h3 q17 = 13)) <| gd (ix (v1 + r9) (zl h3 q17)) <| F_X4_openLevel_b55 v0 v1 v2 v3 v4 (setI h3 q17 (v1 + r9).toNatClampNeg (-1 : Int32))))))
set_option maxHeartbeats 4000000 in
set_option maxRecDepth 100000 in
theorem r_X4_openLevel_l3 (v0 : Nat) (v1 : Int32) (v2 : Nat) (v3 : Nat) (v4 : Int32) (h : Hp) {x : Cx} {o : ((Int32 × Hp) ⊕ Hp)} (e : F_X4_openLevel_l3 v0 v1 v2 v3 v4 h = some o) (kI : ∀ z, o = .inl z → V M_X4_openLevel x 2 3 [(0, .ref v0), (1, .int v1), (2, .ref v2), (3, .ref v3), (4, .int z.1)] [] z.2 0 0) (kE61 : ∀ z : Hp, o = .inr z → V M_X4_openLevel x 2 61 [] [] z 0 0) : V M_X4_openLevel x 2 3 [(0, .ref v0), (1, .int v1), (2, .ref v2), (3, .ref v3), (4, .int v4)] [] h 0 0 := by
  unfold F_X4_openLevel_l3 at e
  refine V_iload (pc := 3) (i := 4) dX4_openLevel_3 rfl ?_
  refine V_ldc (pc := 5) (v := (32768 : Int32)) dX4_openLevel_5 (wk_X4_59) ?_
  refine V_icmp_ge (pc := 7) (tgt := 61) dX4_openLevel_7 (by decide) (fun c24 => ?_) (fun c24 => ?_)
  · rw [if_pos c24] at e
    cases e
    exact V_pick [] rfl (kE61 _ rfl)
  · rw [if_neg c24] at e
    refine V_pick [0, 1, 2, 3, 4] rfl ?_
    refine V_aload_n (pc := 10) (i := 3) dX4_openLevel_10 rfl rfl ?_
    refine V_aload_n (pc := 11) (i := 2) dX4_openLevel_11 rfl rfl ?_
    obtain ⟨r2, h3, g1, e⟩ := ob2_some e
    obtain ⟨g4, e⟩ := gd_some e
    refine V_callV (pc := 12) (bc := 0) (bs := 0) (mc := 0) (ms := 0) (st := []) (As := [.ref v2]) (a := v3) (h' := h3) (r := some (.int r2)) dX4_openLevel_12 ml_X4_81 (ci := 8) rfl (of_decide_eq_true g4) rfl rfl (Nat.le_of_ble_eq_true rfl) (d' := 1) (by decide) (c_X9_advance (l := x.2.1) v3 v2 h g1) ?_
    refine V_if_eq (pc := 15) (tgt := 61) dX4_openLevel_15 (by decide) (fun c23 => ?_) (fun c23 => ?_)
    · rw [if_pos c23] at e
      cases e
      exact V_pick [] rfl (kE61 _ rfl)
    · rw [if_neg c23] at e
      refine V_pick [0, 1, 2, 3, 4] rfl ?_
      refine V_iload_n (pc := 18) (i := 1) dX4_openLevel_18 rfl rfl ?_
      refine V_aload_n (pc := 19) (i := 2) dX4_openLevel_19 rfl rfl ?_
      refine V_aload_n (pc := 20) (i := 3) dX4_openLevel_20 rfl rfl ?_
      obtain ⟨g5, e⟩ := gd_some e
      obtain ⟨q6, g7, e⟩ := ob_some e
      refine V_getR (pc := 21) (ci := 8) (k := 0) (b := q6) dX4_openLevel_21 fl_X4_85 rfl (of_decide_eq_true g5) g7 ?_
      obtain ⟨r9, g8, e⟩ := ob_some e
      obtain ⟨g10, e⟩ := gd_some e
      refine V_callV (pc := 24) (bc := 0) (bs := 0) (mc := 0) (ms := 0) (st := [.int v1]) (As := [.ref q6]) (a := v2) (h' := h3) (r := some (.int r9)) dX4_openLevel_24 ml_X4_27 (ci := 2) rfl (of_decide_eq_true g10) rfl rfl (Nat.le_of_ble_eq_true rfl) (d' := 0) (by decide) (c_X2_asNumber (l := x.2.1) v2 q6 h3 g8) ?_
      refine V_iadd (pc := 27) dX4_openLevel_27 ?_
      refine V_istore (pc := 28) (i := 5) (lv' := [(5, .int (v1 + r9)), (0, .ref v0), (1, .int v1), (2, .ref v2), (3, .ref v3), (4, .int v4)]) dX4_openLevel_28 (by decide) rfl ?_
      refine V_aload_n (pc := 30) (i := 3) dX4_openLevel_30 rfl rfl ?_
      obtain ⟨r12, g11, e⟩ := ob_some e
      refine V_callV (pc := 31) (bc := 0) (bs := 0) (mc := 0) (ms := 0) (st := []) (As := []) (a := v3) (h' := h3) (r := some (.int r12)) dX4_openLevel_31 ml_X4_86 (ci := 8) rfl (of_decide_eq_true g5) rfl rfl (Nat.le_of_ble_eq_true rfl) (d' := 0) (by decide) (c_X9_isLevelNow (l := x.2.1) v3 h3 g11) ?_
      refine V_if_eq (pc := 34) (tgt := 55) dX4_openLevel_34 (by decide) (fun c22 => ?_) (fun c22 => ?_)
      · rw [if_pos c22] at e
        exact V_pick [1, 2, 3, 4, 5] rfl (r_X4_openLevel_b55 v0 v1 v2 v3 v4 h3 e kI kE61)
      · rw [if_neg c22] at e
        refine V_pick [1, 2, 3, 4, 5, 0] rfl ?_
        refine V_iload (pc := 37) (i := 5) dX4_openLevel_37 rfl ?_
        refine V_aload_n (pc := 39) (i := 0) dX4_openLevel_39 rfl rfl ?_
        obtain ⟨g13, e⟩ := gd_some e
        obtain ⟨q14, g15, e⟩ := ob_some e
        refine V_getR (pc := 40) (ci := 4) (k := 0) (b := q14) dX4_openLevel_40 fl_X4_9 rfl (of_decide_eq_true g13) g15 ?_
        obtain ⟨g16, e⟩ := gd_some e
        refine V_alen (pc := 43) (k := 13) dX4_openLevel_43 (of_decide_eq_true g16) (by decide) ?_
        refine V_icmp_ge (pc := 44) (tgt := 55) dX4_openLevel_44 (by decide) (fun c21 => ?_) (fun c21 => ?_)
        · rw [if_pos c21] at e
          exact V_pick [0, 1, 2, 3, 4] rfl (r_X4_openLevel_b55 v0 v1 v2 v3 v4 h3 e kI kE61)
        · rw [if_neg c21] at e
          refine V_pick [0, 1, 2, 3, 4, 5] rfl ?_
          refine V_aload_n (pc := 47) (i := 0) dX4_openLevel_47 rfl rfl ?_
          obtain ⟨q17, g18, e⟩ := ob_some e
          refine V_getR (pc := 48) (ci := 4) (k := 0) (b := q17) dX4_openLevel_48 fl_X4_9 rfl (of_decide_eq_true g13) g18 ?_
          refine V_iload (pc := 51) (i := 5) dX4_openLevel_51 rfl ?_
          refine V_iconst (pc := 53) (v := (-1 : Int32)) dX4_openLevel_53 (by decide) ?_
          obtain ⟨g19, e⟩ := gd_some e
          obtain ⟨g20, e⟩ := gd_some e
          refine V_iast (pc := 54) dX4_openLevel_54 (of_decide_eq_true g19) (ix_in g20) ?_
          exact V_pick [0, 1, 2, 3, 4] rfl (r_X4_openLevel_b55 v0 v1 v2 v3 v4 (setI h3 q17 (v1 + r9).toNatClampNeg (-1 : Int32)) e kI kE61)
set_option maxRecDepth 100000 in
def F_X4_openLevel_b61  (h : Hp) : Option (Unit × Hp) :=
  some ((), h)
set_option maxHeartbeats 4000000 in
set_option maxRecDepth 100000 in
theorem r_X4_openLevel_b61  (h : Hp) {x : Cx} {r : Unit} {hz : Hp} (e : F_X4_openLevel_b61  h = some (r, hz)) (hF : Fin9 M_X4_openLevel x none none hz) : V M_X4_openLevel x 2 61 [] [] h 0 0 := by
  unfold F_X4_openLevel_b61 at e
  cases e
  exact V_vret (pc := 61) dX4_openLevel_61 hF
set_option maxRecDepth 100000 in
def F_X4_openLevel_b0 (v0 : Nat) (v1 : Int32) (v2 : Nat) (v3 : Nat) (h : Hp) : Option (Unit × Hp) :=
  ob (iter (fun z : Int32 × Hp => F_X4_openLevel_l3 v0 v1 v2 v3 z.1 z.2) FU ((0 : Int32), h)) (fun h25 => F_X4_openLevel_b61 h25)
set_option maxHeartbeats 4000000 in
set_option maxRecDepth 100000 in
theorem r_X4_openLevel_b0 (v0 : Nat) (v1 : Int32) (v2 : Nat) (v3 : Nat) (h : Hp) {x : Cx} {r : Unit} {hz : Hp} (e : F_X4_openLevel_b0 v0 v1 v2 v3 h = some (r, hz)) (hF : Fin9 M_X4_openLevel x none none hz) : V M_X4_openLevel x 2 0 [(0, .ref v0), (1, .int v1), (2, .ref v2), (3, .ref v3)] [] h 0 0 := by
  unfold F_X4_openLevel_b0 at e
  refine V_iconst (pc := 0) (v := (0 : Int32)) dX4_openLevel_0 (by decide) ?_
  refine V_istore (pc := 1) (i := 4) (lv' := [(4, .int (0 : Int32)), (0, .ref v0), (1, .int v1), (2, .ref v2), (3, .ref v3)]) dX4_openLevel_1 (by decide) rfl ?_
  refine V_pick [1, 2, 3, 4, 0] rfl ?_
  obtain ⟨y26, g27, e⟩ := ob_some e
  refine iter_V (P := fun z : Int32 × Hp => V M_X4_openLevel x 2 3 [(0, .ref v0), (1, .int v1), (2, .ref v2), (3, .ref v3), (4, .int z.1)] [] z.2 0 0) (E := fun z : Hp => V M_X4_openLevel x 2 61 [] [] z 0 0) (fun z o e9 k1 k2 => r_X4_openLevel_l3 v0 v1 v2 v3 z.1 z.2 e9 (fun z hz9 => k1 z hz9) (fun z hz9 => k2 _ hz9)) _ _ _ g27 ?_
  clear g27
  obtain ⟨h25, rfl⟩ : ∃ q, q = y26 := ⟨_, rfl⟩
  replace e : (F_X4_openLevel_b61 h25) = some (r, hz) := e
  show V M_X4_openLevel x 2 61 [] [] h25 0 0
  exact V_pick [] rfl (r_X4_openLevel_b61 h25 e hF)
def F_X4_openLevel (v0 : Nat) (v1 : Int32) (v2 : Nat) (v3 : Nat) (h : Hp) : Option (Unit × Hp) := F_X4_openLevel_b0 v0 v1 v2 v3 h
theorem c_X4_openLevel {l : Launch} (v0 : Nat) (v1 : Int32) (v2 : Nat) (v3 : Nat) (h : Hp) {r : Unit} {hz : Hp} (e : F_X4_openLevel v0 v1 v2 v3 h = some (r, hz)) : Ct l yX4_openLevel M_X4_openLevel none 2 [.ref v0, .int v1, .ref v2, .ref v3] h 0 0 none hz :=
  Ct_of rfl rfl (fun q => by cases q) (Nat.le_of_ble_eq_true rfl) (fun x _ hF => V_pick [0, 1, 2, 3] rfl (r_X4_openLevel_b0 v0 v1 v2 v3 h e hF))
theorem dX5_metBy_0 : decode cX5_metBy 0 = .ok (.aload_n 3, 1) := by decide +kernel
theorem dX5_metBy_1 : decode cX5_metBy 1 = .ok (.iload_n 1, 1) := by decide +kernel
theorem dX5_metBy_2 : decode cX5_metBy 2 = .ok (.iaload, 1) := by decide +kernel
theorem dX5_metBy_3 : decode cX5_metBy 3 = .ok (.istore 4, 2) := by decide +kernel
theorem dX5_metBy_5 : decode cX5_metBy 5 = .ok (.iconst 0, 1) := by decide +kernel
theorem dX5_metBy_6 : decode cX5_metBy 6 = .ok (.istore 5, 2) := by decide +kernel
theorem dX5_metBy_8 : decode cX5_metBy 8 = .ok (.iconst 0, 1) := by decide +kernel
theorem dX5_metBy_9 : decode cX5_metBy 9 = .ok (.istore 6, 2) := by decide +kernel
theorem dX5_metBy_11 : decode cX5_metBy 11 = .ok (.iload 6, 2) := by decide +kernel
theorem dX5_metBy_13 : decode cX5_metBy 13 = .ok (.aload_n 2, 1) := by decide +kernel
theorem dX5_metBy_14 : decode cX5_metBy 14 = .ok (.getfield 59, 3) := by decide +kernel
theorem dX5_metBy_17 : decode cX5_metBy 17 = .ok (.if_icmp .ge 27, 3) := by decide +kernel
theorem dX5_metBy_20 : decode cX5_metBy 20 = .ok (.aload_n 3, 1) := by decide +kernel
theorem dX5_metBy_21 : decode cX5_metBy 21 = .ok (.iload 6, 2) := by decide +kernel
theorem dX5_metBy_23 : decode cX5_metBy 23 = .ok (.iaload, 1) := by decide +kernel
theorem dX5_metBy_24 : decode cX5_metBy 24 = .ok (.iload 4, 2) := by decide +kernel
theorem dX5_metBy_26 : decode cX5_metBy 26 = .ok (.if_icmp .ne 12, 3) := by decide +kernel
theorem dX5_metBy_29 : decode cX5_metBy 29 = .ok (.iload 5, 2) := by decide +kernel
theorem dX5_metBy_31 : decode cX5_metBy 31 = .ok (.iconst 1, 1) := by decide +kernel
theorem dX5_metBy_32 : decode cX5_metBy 32 = .ok (.iload 6, 2) := by decide +kernel
theorem dX5_metBy_34 : decode cX5_metBy 34 = .ok (.ishl, 1) := by decide +kernel
theorem dX5_metBy_35 : decode cX5_metBy 35 = .ok (.iadd, 1) := by decide +kernel
theorem dX5_metBy_36 : decode cX5_metBy 36 = .ok (.istore 5, 2) := by decide +kernel
theorem dX5_metBy_38 : decode cX5_metBy 38 = .ok (.iinc 6 1, 3) := by decide +kernel
theorem dX5_metBy_41 : decode cX5_metBy 41 = .ok (.goto (-30), 3) := by decide +kernel
theorem dX5_metBy_44 : decode cX5_metBy 44 = .ok (.iload_n 1, 1) := by decide +kernel
theorem dX5_metBy_45 : decode cX5_metBy 45 = .ok (.bipush 8, 2) := by decide +kernel
theorem dX5_metBy_47 : decode cX5_metBy 47 = .ok (.imul, 1) := by decide +kernel
theorem dX5_metBy_48 : decode cX5_metBy 48 = .ok (.iload 4, 2) := by decide +kernel
theorem dX5_metBy_50 : decode cX5_metBy 50 = .ok (.iadd, 1) := by decide +kernel
theorem dX5_metBy_51 : decode cX5_metBy 51 = .ok (.bipush 32, 2) := by decide +kernel
theorem dX5_metBy_53 : decode cX5_metBy 53 = .ok (.imul, 1) := by decide +kernel
theorem dX5_metBy_54 : decode cX5_metBy 54 = .ok (.iload 5, 2) := by decide +kernel
theorem dX5_metBy_56 : decode cX5_metBy 56 = .ok (.iadd, 1) := by decide +kernel
theorem dX5_metBy_57 : decode cX5_metBy 57 = .ok (.istore 6, 2) := by decide +kernel
theorem dX5_metBy_59 : decode cX5_metBy 59 = .ok (.aload_n 0, 1) := by decide +kernel
theorem dX5_metBy_60 : decode cX5_metBy 60 = .ok (.getfield 11, 3) := by decide +kernel
theorem dX5_metBy_63 : decode cX5_metBy 63 = .ok (.iload 6, 2) := by decide +kernel
theorem dX5_metBy_65 : decode cX5_metBy 65 = .ok (.iaload, 1) := by decide +kernel
theorem dX5_metBy_66 : decode cX5_metBy 66 = .ok (.iconst (-1), 1) := by decide +kernel
theorem dX5_metBy_67 : decode cX5_metBy 67 = .ok (.if_icmp .ne 22, 3) := by decide +kernel
theorem dX5_metBy_70 : decode cX5_metBy 70 = .ok (.aload_n 0, 1) := by decide +kernel
theorem dX5_metBy_71 : decode cX5_metBy 71 = .ok (.getfield 11, 3) := by decide +kernel
theorem dX5_metBy_74 : decode cX5_metBy 74 = .ok (.iload 6, 2) := by decide +kernel
theorem dX5_metBy_76 : decode cX5_metBy 76 = .ok (.aload_n 2, 1) := by decide +kernel
theorem dX5_metBy_77 : decode cX5_metBy 77 = .ok (.getfield 73, 3) := by decide +kernel
theorem dX5_metBy_80 : decode cX5_metBy 80 = .ok (.iload_n 1, 1) := by decide +kernel
theorem dX5_metBy_81 : decode cX5_metBy 81 = .ok (.aaload, 1) := by decide +kernel
theorem dX5_metBy_82 : decode cX5_metBy 82 = .ok (.aload_n 2, 1) := by decide +kernel
theorem dX5_metBy_83 : decode cX5_metBy 83 = .ok (.iload_n 1, 1) := by decide +kernel
theorem dX5_metBy_84 : decode cX5_metBy 84 = .ok (.aload_n 3, 1) := by decide +kernel
theorem dX5_metBy_85 : decode cX5_metBy 85 = .ok (.invokevirtual 77, 3) := by decide +kernel
theorem dX5_metBy_88 : decode cX5_metBy 88 = .ok (.iastore, 1) := by decide +kernel
theorem dX5_metBy_89 : decode cX5_metBy 89 = .ok (.aload_n 0, 1) := by decide +kernel
theorem dX5_metBy_90 : decode cX5_metBy 90 = .ok (.getfield 11, 3) := by decide +kernel
theorem dX5_metBy_93 : decode cX5_metBy 93 = .ok (.iload 6, 2) := by decide +kernel
theorem dX5_metBy_95 : decode cX5_metBy 95 = .ok (.iaload, 1) := by decide +kernel
theorem dX5_metBy_96 : decode cX5_metBy 96 = .ok (.ireturn, 1) := by decide +kernel
set_option maxRecDepth 100000 in
def F_X5_metBy_b38 (v0 : Nat) (v1 : Int32) (v2 : Nat) (v3 : Nat) (v4 : Int32) (v5 : Int32) (v6 : Int32) (h : Hp) : Option ((Int32 × Int32) ⊕ Int32) :=
  some (.inl (v5, v6 + (1 : Int32)))
set_option maxHeartbeats 4000000 in
set_option maxRecDepth 100000 in
theorem r_X5_metBy_b38 (v0 : Nat) (v1 : Int32) (v2 : Nat) (v3 : Nat) (v4 : Int32) (v5 : Int32) (v6 : Int32) (h : Hp) {x : Cx} {o : ((Int32 × Int32) ⊕ Int32)} (e : F_X5_metBy_b38 v0 v1 v2 v3 v4 v5 v6 h = some o) (kI : ∀ z, o = .inl z → V M_X5_metBy x 4 11 [(0, .ref v0), (1, .int v1), (2, .ref v2), (3, .ref v3), (4, .int v4), (5, .int z.1), (6, .int z.2)] [] h 0 0) (kE44 : ∀ z : Int32, o = .inr z → V M_X5_metBy x 4 44 [(0, .ref v0), (1, .int v1), (2, .ref v2), (3, .ref v3), (4, .int v4), (5, .int z)] [] h 0 0) : V M_X5_metBy x 4 38 [(0, .ref v0), (1, .int v1), (2, .ref v2), (3, .ref v3), (4, .int v4), (5, .int v5), (6, .int v6)] [] h 0 0 := by
  unfold F_X5_metBy_b38 at e
  refine V_iinc (pc := 38) (i := 6) (u := v6 + (1 : Int32)) (lv' := [(6, .int (v6 + (1 : Int32))), (0, .ref v0), (1, .int v1), (2, .ref v2), (3, .ref v3), (4, .int v4), (5, .int v5)]) dX5_metBy_38 rfl rfl (by decide) rfl ?_
  refine V_goto (pc := 41) (tgt := 11) dX5_metBy_41 (by decide) ?_
  cases e
  exact V_pick [1, 2, 3, 4, 5, 6, 0] rfl (kI _ rfl)
set_option maxRecDepth 100000 in
def F_X5_metBy_l11 (v0 : Nat) (v1 : Int32) (v2 : Nat) (v3 : Nat) (v4 : Int32) (v5 : Int32) (v6 : Int32) (h : Hp) : Option ((Int32 × Int32) ⊕ Int32) :=
  gd (decide (kd h v2 = 2)) <| (if (zI h v2 5) ≤ v6 then some (.inr v5) else gd (decide (kd h v3 = 13)) <| gd (ix v6 (zl h v3)) <| (if (zI h v3 (v6).toNatClampNeg) = v4 then F_X5_metBy_b38 v0 v1 v2 v3 v4 (v5 + ((1 : Int32) <<< (v6 &&& 31))) v6 h else F_X5_metBy_b38 v0 v1 v2 v3 v4 v5 v6 h))
set_option maxHeartbeats 4000000 in
set_option maxRecDepth 100000 in
theorem r_X5_metBy_l11 (v0 : Nat) (v1 : Int32) (v2 : Nat) (v3 : Nat) (v4 : Int32) (v5 : Int32) (v6 : Int32) (h : Hp) {x : Cx} {o : ((Int32 × Int32) ⊕ Int32)} (e : F_X5_metBy_l11 v0 v1 v2 v3 v4 v5 v6 h = some o) (kI : ∀ z, o = .inl z → V M_X5_metBy x 4 11 [(0, .ref v0), (1, .int v1), (2, .ref v2), (3, .ref v3), (4, .int v4), (5, .int z.1), (6, .int z.2)] [] h 0 0) (kE44 : ∀ z : Int32, o = .inr z → V M_X5_metBy x 4 44 [(0, .ref v0), (1, .int v1), (2, .ref v2), (3, .ref v3), (4, .int v4), (5, .int z)] [] h 0 0) : V M_X5_metBy x 4 11 [(0, .ref v0), (1, .int v1), (2, .ref v2), (3, .ref v3), (4, .int v4), (5, .int v5), (6, .int v6)] [] h 0 0 := by
  unfold F_X5_metBy_l11 at e
  refine V_iload (pc := 11) (i := 6) dX5_metBy_11 rfl ?_
  refine V_aload_n (pc := 13) (i := 2) dX5_metBy_13 rfl rfl ?_
  obtain ⟨g3, e⟩ := gd_some e
  refine V_getI (pc := 14) (ci := 2) (k := 5) dX5_metBy_14 fl_X5_59 rfl (of_decide_eq_true g3) ?_
  refine V_icmp_ge (pc := 17) (tgt := 44) dX5_metBy_17 (by decide) (fun c7 => ?_) (fun c7 => ?_)
  · rw [if_pos c7] at e
    cases e
    exact V_pick [0, 1, 2, 3, 4, 5] rfl (kE44 _ rfl)
  · rw [if_neg c7] at e
    refine V_pick [0, 1, 2, 3, 4, 5, 6] rfl ?_
    refine V_aload_n (pc := 20) (i := 3) dX5_metBy_20 rfl rfl ?_
    refine V_iload (pc := 21) (i := 6) dX5_metBy_21 rfl ?_
    obtain ⟨g4, e⟩ := gd_some e
    obtain ⟨g5, e⟩ := gd_some e
    refine V_iald (pc := 23) dX5_metBy_23 (of_decide_eq_true g4) (ix_in g5) ?_
    refine V_iload (pc := 24) (i := 4) dX5_metBy_24 rfl ?_
    refine V_icmp_ne (pc := 26) (tgt := 38) dX5_metBy_26 (by decide) (fun c6 => ?_) (fun c6 => ?_)
    · rw [if_neg c6] at e
      exact V_pick [0, 1, 2, 3, 4, 5, 6] rfl (r_X5_metBy_b38 v0 v1 v2 v3 v4 v5 v6 h e kI kE44)
    · rw [if_pos c6] at e
      refine V_pick [0, 1, 2, 3, 4, 5, 6] rfl ?_
      refine V_iload (pc := 29) (i := 5) dX5_metBy_29 rfl ?_
      refine V_iconst (pc := 31) (v := (1 : Int32)) dX5_metBy_31 (by decide) ?_
      refine V_iload (pc := 32) (i := 6) dX5_metBy_32 rfl ?_
      refine V_ishl (pc := 34) dX5_metBy_34 ?_
      refine V_iadd (pc := 35) dX5_metBy_35 ?_
      refine V_istore (pc := 36) (i := 5) (lv' := [(5, .int (v5 + ((1 : Int32) <<< (v6 &&& 31)))), (0, .ref v0), (1, .int v1), (2, .ref v2), (3, .ref v3), (4, .int v4), (6, .int v6)]) dX5_metBy_36 (by decide) rfl ?_
      exact V_pick [1, 2, 3, 4, 5, 0, 6] rfl (r_X5_metBy_b38 v0 v1 v2 v3 v4 (v5 + ((1 : Int32) <<< (v6 &&& 31))) v6 h e kI kE44)
set_option maxRecDepth 100000 in
def F_X5_metBy_b89 (v0 : Nat) (v6 : Int32) (h : Hp) : Option (Int32 × Hp) :=
  gd (decide (kd h v0 = 5)) <| ob (zR h v0 0) fun q15 => gd (decide (kd h q15 = 13)) <| gd (ix v6 (zl h q15)) <| some (zI h q15 (v6).toNatClampNeg, h)
set_option maxHeartbeats 4000000 in
set_option maxRecDepth 100000 in
theorem r_X5_metBy_b89 (v0 : Nat) (v6 : Int32) (h : Hp) {x : Cx} {r : Int32} {hz : Hp} (e : F_X5_metBy_b89 v0 v6 h = some (r, hz)) (hF : Fin9 M_X5_metBy x (some .int) (some (.int r)) hz) : V M_X5_metBy x 4 89 [(0, .ref v0), (6, .int v6)] [] h 0 0 := by
  unfold F_X5_metBy_b89 at e
  refine V_aload_n (pc := 89) (i := 0) dX5_metBy_89 rfl rfl ?_
  obtain ⟨g14, e⟩ := gd_some e
  obtain ⟨q15, g16, e⟩ := ob_some e
  refine V_getR (pc := 90) (ci := 5) (k := 0) (b := q15) dX5_metBy_90 fl_X5_11 rfl (of_decide_eq_true g14) g16 ?_
  refine V_iload (pc := 93) (i := 6) dX5_metBy_93 rfl ?_
  obtain ⟨g17, e⟩ := gd_some e
  obtain ⟨g18, e⟩ := gd_some e
  refine V_iald (pc := 95) dX5_metBy_95 (of_decide_eq_true g17) (ix_in g18) ?_
  cases e
  exact V_iret (pc := 96) dX5_metBy_96 hF
set_option maxRecDepth 100000 in
def F_X5_metBy_b0 (v0 : Nat) (v1 : Int32) (v2 : Nat) (v3 : Nat) (h : Hp) : Option (Int32 × Hp) :=
  gd (decide (kd h v3 = 13)) <| gd (ix v1 (zl h v3)) <| ob (iter (fun z : Int32 × Int32 => F_X5_metBy_l11 v0 v1 v2 v3 (zI h v3 (v1).toNatClampNeg) z.1 z.2 h) FU ((0 : Int32), (0 : Int32))) (fun w8 => gd (decide (kd h v0 = 5)) <| ob (zR h v0 0) fun q10 => gd (decide (kd h q10 = 13)) <| gd (ix ((((v1 * (8 : Int32)) + (zI h v3 (v1).toNatClampNeg)) * (32 : Int32)) + w8) (zl h q10)) <| (if (zI h q10 ((((v1 * (8 : Int32)) + (zI h v3 (v1).toNatClampNeg)) * (32 : Int32)) + w8).toNatClampNeg) = (-1 : Int32) then ob (zR h v0 0) fun q19 => gd (decide (kd h v2 = 2)) <| ob (zR h v2 8) fun q22 => gd (decide (kd h q22 = 15)) <| gd (ix v1 (zl h q22)) <| ob (zR h q22 (v1).toNatClampNeg) fun q26 => ob2 (F_X10_holding q26 v2 v1 v3 h) fun r29 h30 => gd (decide (kd h q26 = 9)) <| gd (decide (kd h30 q19 = 13)) <| gd (ix ((((v1 * (8 : Int32)) + (zI h v3 (v1).toNatClampNeg)) * (32 : Int32)) + w8) (zl h30 q19)) <| F_X5_metBy_b89 v0 ((((v1 * (8 : Int32)) + (zI h v3 (v1).toNatClampNeg)) * (32 : Int32)) + w8) (setI h30 q19 ((((v1 * (8 : Int32)) + (zI h v3 (v1).toNatClampNeg)) * (32 : Int32)) + w8).toNatClampNeg r29) else F_X5_metBy_b89 v0 ((((v1 * (8 : Int32)) + (zI h v3 (v1).toNatClampNeg)) * (32 : Int32)) + w8) h))
set_option maxHeartbeats 4000000 in
set_option maxRecDepth 100000 in
theorem r_X5_metBy_b0 (v0 : Nat) (v1 : Int32) (v2 : Nat) (v3 : Nat) (h : Hp) {x : Cx} {r : Int32} {hz : Hp} (e : F_X5_metBy_b0 v0 v1 v2 v3 h = some (r, hz)) (hF : Fin9 M_X5_metBy x (some .int) (some (.int r)) hz) : V M_X5_metBy x 4 0 [(0, .ref v0), (1, .int v1), (2, .ref v2), (3, .ref v3)] [] h 0 0 := by
  unfold F_X5_metBy_b0 at e
  refine V_aload_n (pc := 0) (i := 3) dX5_metBy_0 rfl rfl ?_
  refine V_iload_n (pc := 1) (i := 1) dX5_metBy_1 rfl rfl ?_
  obtain ⟨g1, e⟩ := gd_some e
  obtain ⟨g2, e⟩ := gd_some e
  refine V_iald (pc := 2) dX5_metBy_2 (of_decide_eq_true g1) (ix_in g2) ?_
  refine V_istore (pc := 3) (i := 4) (lv' := [(4, .int (zI h v3 (v1).toNatClampNeg)), (0, .ref v0), (1, .int v1), (2, .ref v2), (3, .ref v3)]) dX5_metBy_3 (by decide) rfl ?_
  refine V_iconst (pc := 5) (v := (0 : Int32)) dX5_metBy_5 (by decide) ?_
  refine V_istore (pc := 6) (i := 5) (lv' := [(5, .int (0 : Int32)), (4, .int (zI h v3 (v1).toNatClampNeg)), (0, .ref v0), (1, .int v1), (2, .ref v2), (3, .ref v3)]) dX5_metBy_6 (by decide) rfl ?_
  refine V_iconst (pc := 8) (v := (0 : Int32)) dX5_metBy_8 (by decide) ?_
  refine V_istore (pc := 9) (i := 6) (lv' := [(6, .int (0 : Int32)), (5, .int (0 : Int32)), (4, .int (zI h v3 (v1).toNatClampNeg)), (0, .ref v0), (1, .int v1), (2, .ref v2), (3, .ref v3)]) dX5_metBy_9 (by decide) rfl ?_
  refine V_pick [3, 4, 5, 6, 2, 1, 0] rfl ?_
  obtain ⟨y35, g36, e⟩ := ob_some e
  refine iter_V (P := fun z : Int32 × Int32 => V M_X5_metBy x 4 11 [(0, .ref v0), (1, .int v1), (2, .ref v2), (3, .ref v3), (4, .int (zI h v3 (v1).toNatClampNeg)), (5, .int z.1), (6, .int z.2)] [] h 0 0) (E := fun z : Int32 => V M_X5_metBy x 4 44 [(0, .ref v0), (1, .int v1), (2, .ref v2), (3, .ref v3), (4, .int (zI h v3 (v1).toNatClampNeg)), (5, .int z)] [] h 0 0) (fun z o e9 k1 k2 => r_X5_metBy_l11 v0 v1 v2 v3 (zI h v3 (v1).toNatClampNeg) z.1 z.2 h e9 (fun z hz9 => k1 z hz9) (fun z hz9 => k2 _ hz9)) _ _ _ g36 ?_
  clear g36
  obtain ⟨w8, rfl⟩ : ∃ q, q = y35 := ⟨_, rfl⟩
  replace e : (gd (decide (kd h v0 = 5)) <| ob (zR h v0 0) fun q10 => gd (decide (kd h q10 = 13)) <| gd (ix ((((v1 * (8 : Int32)) + (zI h v3 (v1).toNatClampNeg)) * (32 : Int32)) + w8) (zl h q10)) <| (if (zI h q10 ((((v1 * (8 : Int32)) + (zI h v3 (v1).toNatClampNeg)) * (32 : Int32)) + w8).toNatClampNeg) = (-1 : Int32) then ob (zR h v0 0) fun q19 => gd (decide (kd h v2 = 2)) <| ob (zR h v2 8) fun q22 => gd (decide (kd h q22 = 15)) <| gd (ix v1 (zl h q22)) <| ob (zR h q22 (v1).toNatClampNeg) fun q26 => ob2 (F_X10_holding q26 v2 v1 v3 h) fun r29 h30 => gd (decide (kd h q26 = 9)) <| gd (decide (kd h30 q19 = 13)) <| gd (ix ((((v1 * (8 : Int32)) + (zI h v3 (v1).toNatClampNeg)) * (32 : Int32)) + w8) (zl h30 q19)) <| F_X5_metBy_b89 v0 ((((v1 * (8 : Int32)) + (zI h v3 (v1).toNatClampNeg)) * (32 : Int32)) + w8) (setI h30 q19 ((((v1 * (8 : Int32)) + (zI h v3 (v1).toNatClampNeg)) * (32 : Int32)) + w8).toNatClampNeg r29) else F_X5_metBy_b89 v0 ((((v1 * (8 : Int32)) + (zI h v3 (v1).toNatClampNeg)) * (32 : Int32)) + w8) h)) = some (r, hz) := e
  show V M_X5_metBy x 4 44 [(0, .ref v0), (1, .int v1), (2, .ref v2), (3, .ref v3), (4, .int (zI h v3 (v1).toNatClampNeg)), (5, .int w8)] [] h 0 0
  refine V_iload_n (pc := 44) (i := 1) dX5_metBy_44 rfl rfl ?_
  refine V_bipush (pc := 45) (v := (8 : Int32)) dX5_metBy_45 (by decide) ?_
  refine V_imul (pc := 47) dX5_metBy_47 ?_
  refine V_iload (pc := 48) (i := 4) dX5_metBy_48 rfl ?_
  refine V_iadd (pc := 50) dX5_metBy_50 ?_
  refine V_bipush (pc := 51) (v := (32 : Int32)) dX5_metBy_51 (by decide) ?_
  refine V_imul (pc := 53) dX5_metBy_53 ?_
  refine V_iload (pc := 54) (i := 5) dX5_metBy_54 rfl ?_
  refine V_iadd (pc := 56) dX5_metBy_56 ?_
  refine V_istore (pc := 57) (i := 6) (lv' := [(6, .int ((((v1 * (8 : Int32)) + (zI h v3 (v1).toNatClampNeg)) * (32 : Int32)) + w8)), (0, .ref v0), (1, .int v1), (2, .ref v2), (3, .ref v3), (4, .int (zI h v3 (v1).toNatClampNeg)), (5, .int w8)]) dX5_metBy_57 (by decide) rfl ?_
  refine V_aload_n (pc := 59) (i := 0) dX5_metBy_59 rfl rfl ?_
  obtain ⟨g9, e⟩ := gd_some e
  obtain ⟨q10, g11, e⟩ := ob_some e
  refine V_getR (pc := 60) (ci := 5) (k := 0) (b := q10) dX5_metBy_60 fl_X5_11 rfl (of_decide_eq_true g9) g11 ?_
  refine V_iload (pc := 63) (i := 6) dX5_metBy_63 rfl ?_
  obtain ⟨g12, e⟩ := gd_some e
  obtain ⟨g13, e⟩ := gd_some e
  refine V_iald (pc := 65) dX5_metBy_65 (of_decide_eq_true g12) (ix_in g13) ?_
  refine V_iconst (pc := 66) (v := (-1 : Int32)) dX5_metBy_66 (by decide) ?_
  refine V_icmp_ne (pc := 67) (tgt := 89) dX5_metBy_67 (by decide) (fun c34 => ?_) (fun c34 => ?_)
  · rw [if_neg c34] at e
    exact V_pick [1, 0] rfl (r_X5_metBy_b89 v0 ((((v1 * (8 : Int32)) + (zI h v3 (v1).toNatClampNeg)) * (32 : Int32)) + w8) h e hF)
  · rw [if_pos c34] at e
    refine V_pick [1, 2, 3, 4, 0] rfl ?_
    refine V_aload_n (pc := 70) (i := 0) dX5_metBy_70 rfl rfl ?_
    obtain ⟨q19, g20, e⟩ := ob_some e
    refine V_getR (pc := 71) (ci := 5) (k := 0) (b := q19) dX5_metBy_71 fl_X5_11 rfl (of_decide_eq_true g9) g20 ?_
    refine V_iload (pc := 74) (i := 6) dX5_metBy_74 rfl ?_
    refine V_aload_n (pc := 76) (i := 2) dX5_metBy_76 rfl rfl ?_
    obtain ⟨g21, e⟩ := gd_some e
    obtain ⟨q22, g23, e⟩ := ob_some e
    refine V_getR (pc := 77) (ci := 2) (k := 8) (b := q22) dX5_metBy_77 fl_X5_73 rfl (of_decide_eq_true g21) g23 ?_
    refine V_iload_n (pc := 80) (i := 1) dX5_metBy_80 rfl rfl ?_
    obtain ⟨g24, e⟩ := gd_some e
    obtain ⟨g25, e⟩ := gd_some e
    obtain ⟨q26, g27, e⟩ := ob_some e
    refine V_aald (pc := 81) (b := q26) dX5_metBy_81 (of_decide_eq_true g24) (ix_in g25) g27 ?_
    refine V_aload_n (pc := 82) (i := 2) dX5_metBy_82 rfl rfl ?_
    refine V_iload_n (pc := 83) (i := 1) dX5_metBy_83 rfl rfl ?_
    refine V_aload_n (pc := 84) (i := 3) dX5_metBy_84 rfl rfl ?_
    obtain ⟨r29, h30, g28, e⟩ := ob2_some e
    obtain ⟨g31, e⟩ := gd_some e
    refine V_callV (pc := 85) (bc := 0) (bs := 0) (mc := 0) (ms := 0) (st := [.int ((((v1 * (8 : Int32)) + (zI h v3 (v1).toNatClampNeg)) * (32 : Int32)) + w8), .ref q19]) (As := [.ref v2, .int v1, .ref v3]) (a := q26) (h' := h30) (r := some (.int r29)) dX5_metBy_85 ml_X5_77 (ci := 9) rfl (of_decide_eq_true g31) rfl rfl (Nat.le_of_ble_eq_true rfl) (d' := 3) (by decide) (c_X10_holding (l := x.2.1) q26 v2 v1 v3 h g28) ?_
    obtain ⟨g32, e⟩ := gd_some e
    obtain ⟨g33, e⟩ := gd_some e
    refine V_iast (pc := 88) dX5_metBy_88 (of_decide_eq_true g32) (ix_in g33) ?_
    exact V_pick [0, 4] rfl (r_X5_metBy_b89 v0 ((((v1 * (8 : Int32)) + (zI h v3 (v1).toNatClampNeg)) * (32 : Int32)) + w8) (setI h30 q19 ((((v1 * (8 : Int32)) + (zI h v3 (v1).toNatClampNeg)) * (32 : Int32)) + w8).toNatClampNeg r29) e hF)
def F_X5_metBy (v0 : Nat) (v1 : Int32) (v2 : Nat) (v3 : Nat) (h : Hp) : Option (Int32 × Hp) := F_X5_metBy_b0 v0 v1 v2 v3 h
theorem c_X5_metBy {l : Launch} (v0 : Nat) (v1 : Int32) (v2 : Nat) (v3 : Nat) (h : Hp) {r : Int32} {hz : Hp} (e : F_X5_metBy v0 v1 v2 v3 h = some (r, hz)) : Ct l yX5_metBy M_X5_metBy (some .int) 4 [.ref v0, .int v1, .ref v2, .ref v3] h 0 0 (some (.int r)) hz :=
  Ct_of rfl rfl (fun q => by cases q) (Nat.le_of_ble_eq_true rfl) (fun x _ hF => V_pick [0, 1, 2, 3] rfl (r_X5_metBy_b0 v0 v1 v2 v3 h e hF))
theorem dX10_readSum_0 : decode cX10_readSum 0 = .ok (.aload_n 0, 1) := by decide +kernel
theorem dX10_readSum_1 : decode cX10_readSum 1 = .ok (.aload_n 1, 1) := by decide +kernel
theorem dX10_readSum_2 : decode cX10_readSum 2 = .ok (.invokevirtual 99, 3) := by decide +kernel
theorem dX10_readSum_5 : decode cX10_readSum 5 = .ok (.ifCond .ne 5, 3) := by decide +kernel
theorem dX10_readSum_8 : decode cX10_readSum 8 = .ok (.iconst 0, 1) := by decide +kernel
theorem dX10_readSum_9 : decode cX10_readSum 9 = .ok (.ireturn, 1) := by decide +kernel
theorem dX10_readSum_10 : decode cX10_readSum 10 = .ok (.iconst 0, 1) := by decide +kernel
theorem dX10_readSum_11 : decode cX10_readSum 11 = .ok (.istore_n 2, 1) := by decide +kernel
theorem dX10_readSum_12 : decode cX10_readSum 12 = .ok (.iload_n 2, 1) := by decide +kernel
theorem dX10_readSum_13 : decode cX10_readSum 13 = .ok (.sipush 400, 3) := by decide +kernel
theorem dX10_readSum_16 : decode cX10_readSum 16 = .ok (.if_icmp .ge 38, 3) := by decide +kernel
theorem dX10_readSum_19 : decode cX10_readSum 19 = .ok (.aload_n 1, 1) := by decide +kernel
theorem dX10_readSum_20 : decode cX10_readSum 20 = .ok (.bipush 43, 2) := by decide +kernel
theorem dX10_readSum_22 : decode cX10_readSum 22 = .ok (.invokevirtual 65, 3) := by decide +kernel
theorem dX10_readSum_25 : decode cX10_readSum 25 = .ok (.ifCond .eq 29, 3) := by decide +kernel
theorem dX10_readSum_28 : decode cX10_readSum 28 = .ok (.aload_n 1, 1) := by decide +kernel
theorem dX10_readSum_29 : decode cX10_readSum 29 = .ok (.invokevirtual 55, 3) := by decide +kernel
theorem dX10_readSum_32 : decode cX10_readSum 32 = .ok (.aload_n 0, 1) := by decide +kernel
theorem dX10_readSum_33 : decode cX10_readSum 33 = .ok (.aload_n 1, 1) := by decide +kernel
theorem dX10_readSum_34 : decode cX10_readSum 34 = .ok (.invokevirtual 99, 3) := by decide +kernel
theorem dX10_readSum_37 : decode cX10_readSum 37 = .ok (.ifCond .ne 5, 3) := by decide +kernel
theorem dX10_readSum_40 : decode cX10_readSum 40 = .ok (.iconst 0, 1) := by decide +kernel
theorem dX10_readSum_41 : decode cX10_readSum 41 = .ok (.ireturn, 1) := by decide +kernel
theorem dX10_readSum_42 : decode cX10_readSum 42 = .ok (.aload_n 0, 1) := by decide +kernel
theorem dX10_readSum_43 : decode cX10_readSum 43 = .ok (.iconst (-1), 1) := by decide +kernel
theorem dX10_readSum_44 : decode cX10_readSum 44 = .ok (.invokevirtual 43, 3) := by decide +kernel
theorem dX10_readSum_47 : decode cX10_readSum 47 = .ok (.pop, 1) := by decide +kernel
theorem dX10_readSum_48 : decode cX10_readSum 48 = .ok (.iinc 2 1, 3) := by decide +kernel
theorem dX10_readSum_51 : decode cX10_readSum 51 = .ok (.goto (-39), 3) := by decide +kernel
theorem dX10_readSum_54 : decode cX10_readSum 54 = .ok (.iconst 1, 1) := by decide +kernel
theorem dX10_readSum_55 : decode cX10_readSum 55 = .ok (.ireturn, 1) := by decide +kernel
set_option maxRecDepth 100000 in
def F_X10_readSum_l12 (v0 : Nat) (v1 : Nat) (v2 : Int32) (h : Hp) : Option ((Int32 × Hp) ⊕ (Hp ⊕ Hp)) :=
  (if (400 : Int32) ≤ v2 then some (.inr (.inl h)) else ob (F_X6_isSign v1 (43 : Int32) h) fun r6 => gd (decide (kd h v1 = 6)) <| (if r6 = 0 then some (.inr (.inl h)) else ob2 (F_X6_lookAtNext v1 h) fun _ h10 => ob2 (F_X10_readPart v0 v1 h10) fun r12 h13 => gd (decide (kd h10 v0 = 9)) <| (if r12 = 0 then some (.inr (.inr h13)) else ob2 (F_X10_put v0 (-1 : Int32) h13) fun r16 h17 => gd (decide (kd h13 v0 = 9)) <| some (.inl (v2 + (1 : Int32), h17)))))
set_option maxHeartbeats 4000000 in
set_option maxRecDepth 100000 in
theorem r_X10_readSum_l12 (v0 : Nat) (v1 : Nat) (v2 : Int32) (h : Hp) {x : Cx} {o : ((Int32 × Hp) ⊕ (Hp ⊕ Hp))} (e : F_X10_readSum_l12 v0 v1 v2 h = some o) (kI : ∀ z, o = .inl z → V M_X10_readSum x 7 12 [(0, .ref v0), (1, .ref v1), (2, .int z.1)] [] z.2 0 0) (kE54 : ∀ z : Hp, o = .inr (.inl z) → V M_X10_readSum x 7 54 [] [] z 0 0) (kE40 : ∀ z : Hp, o = .inr (.inr z) → V M_X10_readSum x 7 40 [] [] z 0 0) : V M_X10_readSum x 7 12 [(0, .ref v0), (1, .ref v1), (2, .int v2)] [] h 0 0 := by
  unfold F_X10_readSum_l12 at e
  refine V_iload_n (pc := 12) (i := 2) dX10_readSum_12 rfl rfl ?_
  refine V_sipush (pc := 13) (v := (400 : Int32)) dX10_readSum_13 (by decide) ?_
  refine V_icmp_ge (pc := 16) (tgt := 54) dX10_readSum_16 (by decide) (fun c21 => ?_) (fun c21 => ?_)
  · rw [if_pos c21] at e
    cases e
    exact V_pick [] rfl (kE54 _ rfl)
  · rw [if_neg c21] at e
    refine V_pick [0, 1, 2] rfl ?_
    refine V_aload_n (pc := 19) (i := 1) dX10_readSum_19 rfl rfl ?_
    refine V_bipush (pc := 20) (v := (43 : Int32)) dX10_readSum_20 (by decide) ?_
    obtain ⟨r6, g5, e⟩ := ob_some e
    obtain ⟨g7, e⟩ := gd_some e
    refine V_callV (pc := 22) (bc := 0) (bs := 0) (mc := 0) (ms := 0) (st := []) (As := [.int (43 : Int32)]) (a := v1) (h' := h) (r := some (.int r6)) dX10_readSum_22 ml_X10_65 (ci := 6) rfl (of_decide_eq_true g7) rfl rfl (Nat.le_of_ble_eq_true rfl) (d' := 0) (by decide) (c_X6_isSign (l := x.2.1) v1 (43 : Int32) h g5) ?_
    refine V_if_eq (pc := 25) (tgt := 54) dX10_readSum_25 (by decide) (fun c20 => ?_) (fun c20 => ?_)
    · rw [if_pos c20] at e
      cases e
      exact V_pick [] rfl (kE54 _ rfl)
    · rw [if_neg c20] at e
      refine V_pick [0, 1, 2] rfl ?_
      refine V_aload_n (pc := 28) (i := 1) dX10_readSum_28 rfl rfl ?_
      obtain ⟨r9, h10, g8, e⟩ := ob2_some e
      refine V_callV (pc := 29) (bc := 0) (bs := 0) (mc := 0) (ms := 0) (st := []) (As := []) (a := v1) (h' := h10) (r := none) dX10_readSum_29 ml_X10_55 (ci := 6) rfl (of_decide_eq_true g7) rfl rfl (Nat.le_of_ble_eq_true rfl) (d' := 1) (by decide) (c_X6_lookAtNext (l := x.2.1) v1 h g8) ?_
      refine V_aload_n (pc := 32) (i := 0) dX10_readSum_32 rfl rfl ?_
      refine V_aload_n (pc := 33) (i := 1) dX10_readSum_33 rfl rfl ?_
      obtain ⟨r12, h13, g11, e⟩ := ob2_some e
      obtain ⟨g14, e⟩ := gd_some e
      refine V_callV (pc := 34) (bc := 0) (bs := 0) (mc := 0) (ms := 0) (st := []) (As := [.ref v1]) (a := v0) (h' := h13) (r := some (.int r12)) dX10_readSum_34 ml_X10_99 (ci := 9) rfl (of_decide_eq_true g14) rfl rfl (Nat.le_of_ble_eq_true rfl) (d' := 6) (by decide) (c_X10_readPart (l := x.2.1) v0 v1 h10 g11) ?_
      refine V_if_ne (pc := 37) (tgt := 42) dX10_readSum_37 (by decide) (fun c19 => ?_) (fun c19 => ?_)
      · rw [if_neg c19] at e
        refine V_pick [0, 1, 2] rfl ?_
        refine V_aload_n (pc := 42) (i := 0) dX10_readSum_42 rfl rfl ?_
        refine V_iconst (pc := 43) (v := (-1 : Int32)) dX10_readSum_43 (by decide) ?_
        obtain ⟨r16, h17, g15, e⟩ := ob2_some e
        obtain ⟨g18, e⟩ := gd_some e
        refine V_callV (pc := 44) (bc := 0) (bs := 0) (mc := 0) (ms := 0) (st := []) (As := [.int (-1 : Int32)]) (a := v0) (h' := h17) (r := some (.int r16)) dX10_readSum_44 ml_X10_43 (ci := 9) rfl (of_decide_eq_true g18) rfl rfl (Nat.le_of_ble_eq_true rfl) (d' := 0) (by decide) (c_X10_put (l := x.2.1) v0 (-1 : Int32) h13 g15) ?_
        refine V_pop (pc := 47) dX10_readSum_47 rfl ?_
        refine V_iinc (pc := 48) (i := 2) (u := v2 + (1 : Int32)) (lv' := [(2, .int (v2 + (1 : Int32))), (0, .ref v0), (1, .ref v1)]) dX10_readSum_48 rfl rfl (by decide) rfl ?_
        refine V_goto (pc := 51) (tgt := 12) dX10_readSum_51 (by decide) ?_
        cases e
        exact V_pick [1, 2, 0] rfl (kI _ rfl)
      · rw [if_pos c19] at e
        cases e
        exact V_pick [] rfl (kE40 _ rfl)
set_option maxRecDepth 100000 in
def F_X10_readSum_b54  (h : Hp) : Option (Int32 × Hp) :=
  some ((1 : Int32), h)
set_option maxHeartbeats 4000000 in
set_option maxRecDepth 100000 in
theorem r_X10_readSum_b54  (h : Hp) {x : Cx} {r : Int32} {hz : Hp} (e : F_X10_readSum_b54  h = some (r, hz)) (hF : Fin9 M_X10_readSum x (some .boolean) (some (.int r)) hz) : V M_X10_readSum x 7 54 [] [] h 0 0 := by
  unfold F_X10_readSum_b54 at e
  refine V_iconst (pc := 54) (v := (1 : Int32)) dX10_readSum_54 (by decide) ?_
  cases e
  exact V_zret (pc := 55) dX10_readSum_55 rfl hF
set_option maxRecDepth 100000 in
def F_X10_readSum_b0 (v0 : Nat) (v1 : Nat) (h : Hp) : Option (Int32 × Hp) :=
  ob2 (F_X10_readPart v0 v1 h) fun r2 h3 => gd (decide (kd h v0 = 9)) <| (if r2 = 0 then some ((0 : Int32), h3) else ob (iter (fun z : Int32 × Hp => F_X10_readSum_l12 v0 v1 z.1 z.2) FU ((0 : Int32), h3)) (fun z => sm z (fun h22 => F_X10_readSum_b54 h22) (fun h23 => some ((0 : Int32), h23))))
set_option maxHeartbeats 4000000 in
set_option maxRecDepth 100000 in
theorem r_X10_readSum_b0 (v0 : Nat) (v1 : Nat) (h : Hp) {x : Cx} {r : Int32} {hz : Hp} (e : F_X10_readSum_b0 v0 v1 h = some (r, hz)) (hF : Fin9 M_X10_readSum x (some .boolean) (some (.int r)) hz) : V M_X10_readSum x 7 0 [(0, .ref v0), (1, .ref v1)] [] h 0 0 := by
  unfold F_X10_readSum_b0 at e
  refine V_aload_n (pc := 0) (i := 0) dX10_readSum_0 rfl rfl ?_
  refine V_aload_n (pc := 1) (i := 1) dX10_readSum_1 rfl rfl ?_
  obtain ⟨r2, h3, g1, e⟩ := ob2_some e
  obtain ⟨g4, e⟩ := gd_some e
  refine V_callV (pc := 2) (bc := 0) (bs := 0) (mc := 0) (ms := 0) (st := []) (As := [.ref v1]) (a := v0) (h' := h3) (r := some (.int r2)) dX10_readSum_2 ml_X10_99 (ci := 9) rfl (of_decide_eq_true g4) rfl rfl (Nat.le_of_ble_eq_true rfl) (d' := 6) (by decide) (c_X10_readPart (l := x.2.1) v0 v1 h g1) ?_
  refine V_if_ne (pc := 5) (tgt := 10) dX10_readSum_5 (by decide) (fun c28 => ?_) (fun c28 => ?_)
  · rw [if_neg c28] at e
    refine V_pick [0, 1] rfl ?_
    refine V_iconst (pc := 10) (v := (0 : Int32)) dX10_readSum_10 (by decide) ?_
    refine V_istore_n (pc := 11) (i := 2) (lv' := [(2, .int (0 : Int32)), (0, .ref v0), (1, .ref v1)]) dX10_readSum_11 rfl (by decide) rfl ?_
    refine V_pick [1, 2, 0] rfl ?_
    obtain ⟨y24, g25, e⟩ := ob_some e
    refine iter_V (P := fun z : Int32 × Hp => V M_X10_readSum x 7 12 [(0, .ref v0), (1, .ref v1), (2, .int z.1)] [] z.2 0 0) (E := fun z => Sum.elim (fun z : Hp => V M_X10_readSum x 7 54 [] [] z 0 0) (fun z : Hp => V M_X10_readSum x 7 40 [] [] z 0 0) z) (fun z o e9 k1 k2 => r_X10_readSum_l12 v0 v1 z.1 z.2 e9 (fun z hz9 => k1 z hz9) (fun z hz9 => k2 _ hz9) (fun z hz9 => k2 _ hz9)) _ _ _ g25 ?_
    clear g25
    rcases y24 with y26 | y27
    · obtain ⟨h22, rfl⟩ : ∃ q, q = y26 := ⟨_, rfl⟩
      replace e : (F_X10_readSum_b54 h22) = some (r, hz) := e
      show V M_X10_readSum x 7 54 [] [] h22 0 0
      exact V_pick [] rfl (r_X10_readSum_b54 h22 e hF)
    · obtain ⟨h23, rfl⟩ : ∃ q, q = y27 := ⟨_, rfl⟩
      replace e : (some ((0 : Int32), h23)) = some (r, hz) := e
      show V M_X10_readSum x 7 40 [] [] h23 0 0
      refine V_iconst (pc := 40) (v := (0 : Int32)) dX10_readSum_40 (by decide) ?_
      cases e
      exact V_zret (pc := 41) dX10_readSum_41 rfl hF
  · rw [if_pos c28] at e
    refine V_pick [] rfl ?_
    refine V_iconst (pc := 8) (v := (0 : Int32)) dX10_readSum_8 (by decide) ?_
    cases e
    exact V_zret (pc := 9) dX10_readSum_9 rfl hF
def F_X10_readSum (v0 : Nat) (v1 : Nat) (h : Hp) : Option (Int32 × Hp) := F_X10_readSum_b0 v0 v1 h
theorem c_X10_readSum {l : Launch} (v0 : Nat) (v1 : Nat) (h : Hp) {r : Int32} {hz : Hp} (e : F_X10_readSum v0 v1 h = some (r, hz)) : Ct l yX10_readSum M_X10_readSum (some .boolean) 7 [.ref v0, .ref v1] h 0 0 (some (.int r)) hz :=
  Ct_of rfl rfl (fun q => by cases q) (Nat.le_of_ble_eq_true rfl) (fun x _ hF => V_pick [0, 1] rfl (r_X10_readSum_b0 v0 v1 h e hF))
theorem dX1_pass_0 : decode cX1_pass 0 = .ok (.aload_n 1, 1) := by decide +kernel
theorem dX1_pass_1 : decode cX1_pass 1 = .ok (.getfield 29, 3) := by decide +kernel
theorem dX1_pass_4 : decode cX1_pass 4 = .ok (.iconst 0, 1) := by decide +kernel
theorem dX1_pass_5 : decode cX1_pass 5 = .ok (.aload_n 0, 1) := by decide +kernel
theorem dX1_pass_6 : decode cX1_pass 6 = .ok (.getfield 9, 3) := by decide +kernel
theorem dX1_pass_9 : decode cX1_pass 9 = .ok (.iconst 0, 1) := by decide +kernel
theorem dX1_pass_10 : decode cX1_pass 10 = .ok (.iconst 5, 1) := by decide +kernel
theorem dX1_pass_11 : decode cX1_pass 11 = .ok (.invokestatic 32, 3) := by decide +kernel
theorem dX1_pass_14 : decode cX1_pass 14 = .ok (.aload_n 0, 1) := by decide +kernel
theorem dX1_pass_15 : decode cX1_pass 15 = .ok (.getfield 18, 3) := by decide +kernel
theorem dX1_pass_18 : decode cX1_pass 18 = .ok (.aload_n 1, 1) := by decide +kernel
theorem dX1_pass_19 : decode cX1_pass 19 = .ok (.getfield 38, 3) := by decide +kernel
theorem dX1_pass_22 : decode cX1_pass 22 = .ok (.invokevirtual 39, 3) := by decide +kernel
theorem dX1_pass_25 : decode cX1_pass 25 = .ok (.aload_n 0, 1) := by decide +kernel
theorem dX1_pass_26 : decode cX1_pass 26 = .ok (.iconst (-1), 1) := by decide +kernel
theorem dX1_pass_27 : decode cX1_pass 27 = .ok (.putfield 22, 3) := by decide +kernel
theorem dX1_pass_30 : decode cX1_pass 30 = .ok (.aload_n 0, 1) := by decide +kernel
theorem dX1_pass_31 : decode cX1_pass 31 = .ok (.iconst 0, 1) := by decide +kernel
theorem dX1_pass_32 : decode cX1_pass 32 = .ok (.putfield 26, 3) := by decide +kernel
theorem dX1_pass_35 : decode cX1_pass 35 = .ok (.iconst 0, 1) := by decide +kernel
theorem dX1_pass_36 : decode cX1_pass 36 = .ok (.istore_n 2, 1) := by decide +kernel
theorem dX1_pass_37 : decode cX1_pass 37 = .ok (.iconst 1, 1) := by decide +kernel
theorem dX1_pass_38 : decode cX1_pass 38 = .ok (.istore_n 3, 1) := by decide +kernel
theorem dX1_pass_39 : decode cX1_pass 39 = .ok (.iconst 0, 1) := by decide +kernel
theorem dX1_pass_40 : decode cX1_pass 40 = .ok (.istore 4, 2) := by decide +kernel
theorem dX1_pass_42 : decode cX1_pass 42 = .ok (.iload 4, 2) := by decide +kernel
theorem dX1_pass_44 : decode cX1_pass 44 = .ok (.sipush 1000, 3) := by decide +kernel
theorem dX1_pass_47 : decode cX1_pass 47 = .ok (.if_icmp .ge 42, 3) := by decide +kernel
theorem dX1_pass_50 : decode cX1_pass 50 = .ok (.iload_n 2, 1) := by decide +kernel
theorem dX1_pass_51 : decode cX1_pass 51 = .ok (.istore 5, 2) := by decide +kernel
theorem dX1_pass_53 : decode cX1_pass 53 = .ok (.aload_n 0, 1) := by decide +kernel
theorem dX1_pass_54 : decode cX1_pass 54 = .ok (.aload_n 1, 1) := by decide +kernel
theorem dX1_pass_55 : decode cX1_pass 55 = .ok (.getfield 43, 3) := by decide +kernel
theorem dX1_pass_58 : decode cX1_pass 58 = .ok (.iload_n 2, 1) := by decide +kernel
theorem dX1_pass_59 : decode cX1_pass 59 = .ok (.iload 4, 2) := by decide +kernel
theorem dX1_pass_61 : decode cX1_pass 61 = .ok (.invokevirtual 47, 3) := by decide +kernel
theorem dX1_pass_64 : decode cX1_pass 64 = .ok (.istore_n 2, 1) := by decide +kernel
theorem dX1_pass_65 : decode cX1_pass 65 = .ok (.iload_n 3, 1) := by decide +kernel
theorem dX1_pass_66 : decode cX1_pass 66 = .ok (.ifCond .ne 9, 3) := by decide +kernel
theorem dX1_pass_69 : decode cX1_pass 69 = .ok (.iload_n 2, 1) := by decide +kernel
theorem dX1_pass_70 : decode cX1_pass 70 = .ok (.iload 5, 2) := by decide +kernel
theorem dX1_pass_72 : decode cX1_pass 72 = .ok (.if_icmp .le 11, 3) := by decide +kernel
theorem dX1_pass_75 : decode cX1_pass 75 = .ok (.aload_n 0, 1) := by decide +kernel
theorem dX1_pass_76 : decode cX1_pass 76 = .ok (.aload_n 1, 1) := by decide +kernel
theorem dX1_pass_77 : decode cX1_pass 77 = .ok (.iload 4, 2) := by decide +kernel
theorem dX1_pass_79 : decode cX1_pass 79 = .ok (.invokevirtual 51, 3) := by decide +kernel
theorem dX1_pass_82 : decode cX1_pass 82 = .ok (.istore_n 3, 1) := by decide +kernel
theorem dX1_pass_83 : decode cX1_pass 83 = .ok (.iinc 4 1, 3) := by decide +kernel
theorem dX1_pass_86 : decode cX1_pass 86 = .ok (.goto (-44), 3) := by decide +kernel
theorem dX1_pass_89 : decode cX1_pass 89 = .ok (.return_, 1) := by decide +kernel
set_option maxRecDepth 100000 in
def F_X1_pass_b83 (v0 : Nat) (v1 : Nat) (v2 : Int32) (v3 : Int32) (v4 : Int32) (h : Hp) : Option ((Int32 × Int32 × Int32 × Hp) ⊕ Hp) :=
  some (.inl (v2, v3, v4 + (1 : Int32), h))
set_option maxHeartbeats 4000000 in
set_option maxRecDepth 100000 in
theorem r_X1_pass_b83 (v0 : Nat) (v1 : Nat) (v2 : Int32) (v3 : Int32) (v4 : Int32) (h : Hp) {x : Cx} {o : ((Int32 × Int32 × Int32 × Hp) ⊕ Hp)} (e : F_X1_pass_b83 v0 v1 v2 v3 v4 h = some o) (kI : ∀ z, o = .inl z → V M_X1_pass x 3 42 [(0, .ref v0), (1, .ref v1), (2, .int z.1), (3, .int z.2.1), (4, .int z.2.2.1)] [] z.2.2.2 0 0) (kE89 : ∀ z : Hp, o = .inr z → V M_X1_pass x 3 89 [] [] z 0 0) : V M_X1_pass x 3 83 [(0, .ref v0), (1, .ref v1), (2, .int v2), (3, .int v3), (4, .int v4)] [] h 0 0 := by
  unfold F_X1_pass_b83 at e
  refine V_iinc (pc := 83) (i := 4) (u := v4 + (1 : Int32)) (lv' := [(4, .int (v4 + (1 : Int32))), (0, .ref v0), (1, .ref v1), (2, .int v2), (3, .int v3)]) dX1_pass_83 rfl rfl (by decide) rfl ?_
  refine V_goto (pc := 86) (tgt := 42) dX1_pass_86 (by decide) ?_
  cases e
  exact V_pick [1, 2, 3, 4, 0] rfl (kI _ rfl)
set_option maxRecDepth 100000 in
def F_X1_pass_b75 (v0 : Nat) (v1 : Nat) (v2 : Int32) (v4 : Int32) (h : Hp) : Option ((Int32 × Int32 × Int32 × Hp) ⊕ Hp) :=
  ob2 (F_X1_endMinute v0 v1 v4 h) fun r27 h28 => gd (decide (kd h v0 = 1)) <| F_X1_pass_b83 v0 v1 v2 r27 v4 h28
set_option maxHeartbeats 4000000 in
set_option maxRecDepth 100000 in
theorem r_X1_pass_b75 (v0 : Nat) (v1 : Nat) (v2 : Int32) (v4 : Int32) (h : Hp) {x : Cx} {o : ((Int32 × Int32 × Int32 × Hp) ⊕ Hp)} (e : F_X1_pass_b75 v0 v1 v2 v4 h = some o) (kI : ∀ z, o = .inl z → V M_X1_pass x 3 42 [(0, .ref v0), (1, .ref v1), (2, .int z.1), (3, .int z.2.1), (4, .int z.2.2.1)] [] z.2.2.2 0 0) (kE89 : ∀ z : Hp, o = .inr z → V M_X1_pass x 3 89 [] [] z 0 0) : V M_X1_pass x 3 75 [(0, .ref v0), (1, .ref v1), (2, .int v2), (4, .int v4)] [] h 0 0 := by
  unfold F_X1_pass_b75 at e
  refine V_aload_n (pc := 75) (i := 0) dX1_pass_75 rfl rfl ?_
  refine V_aload_n (pc := 76) (i := 1) dX1_pass_76 rfl rfl ?_
  refine V_iload (pc := 77) (i := 4) dX1_pass_77 rfl ?_
  obtain ⟨r27, h28, g26, e⟩ := ob2_some e
  obtain ⟨g29, e⟩ := gd_some e
  refine V_callV (pc := 79) (bc := 0) (bs := 0) (mc := 0) (ms := 0) (st := []) (As := [.ref v1, .int v4]) (a := v0) (h' := h28) (r := some (.int r27)) dX1_pass_79 ml_X1_51 (ci := 1) rfl (of_decide_eq_true g29) rfl rfl (Nat.le_of_ble_eq_true rfl) (d' := 2) (by decide) (c_X1_endMinute (l := x.2.1) v0 v1 v4 h g26) ?_
  refine V_istore_n (pc := 82) (i := 3) (lv' := [(3, .int r27), (0, .ref v0), (1, .ref v1), (2, .int v2), (4, .int v4)]) dX1_pass_82 rfl (by decide) rfl ?_
  exact V_pick [1, 2, 3, 0, 4] rfl (r_X1_pass_b83 v0 v1 v2 r27 v4 h28 e kI kE89)
set_option maxRecDepth 100000 in
def F_X1_pass_l42 (v0 : Nat) (v1 : Nat) (v2 : Int32) (v3 : Int32) (v4 : Int32) (h : Hp) : Option ((Int32 × Int32 × Int32 × Hp) ⊕ Hp) :=
  (if (1000 : Int32) ≤ v4 then some (.inr h) else gd (decide (kd h v1 = 2)) <| ob (zR h v1 16) fun q20 => ob2 (F_X1_walkAll v0 q20 v2 v4 h) fun r23 h24 => gd (decide (kd h v0 = 1)) <| (if v3 = 0 then (if r23 ≤ v2 then F_X1_pass_b83 v0 v1 r23 v3 v4 h24 else F_X1_pass_b75 v0 v1 r23 v4 h24) else F_X1_pass_b75 v0 v1 r23 v4 h24))
set_option maxHeartbeats 4000000 in
set_option maxRecDepth 100000 in
theorem r_X1_pass_l42 (v0 : Nat) (v1 : Nat) (v2 : Int32) (v3 : Int32) (v4 : Int32) (h : Hp) {x : Cx} {o : ((Int32 × Int32 × Int32 × Hp) ⊕ Hp)} (e : F_X1_pass_l42 v0 v1 v2 v3 v4 h = some o) (kI : ∀ z, o = .inl z → V M_X1_pass x 3 42 [(0, .ref v0), (1, .ref v1), (2, .int z.1), (3, .int z.2.1), (4, .int z.2.2.1)] [] z.2.2.2 0 0) (kE89 : ∀ z : Hp, o = .inr z → V M_X1_pass x 3 89 [] [] z 0 0) : V M_X1_pass x 3 42 [(0, .ref v0), (1, .ref v1), (2, .int v2), (3, .int v3), (4, .int v4)] [] h 0 0 := by
  unfold F_X1_pass_l42 at e
  refine V_iload (pc := 42) (i := 4) dX1_pass_42 rfl ?_
  refine V_sipush (pc := 44) (v := (1000 : Int32)) dX1_pass_44 (by decide) ?_
  refine V_icmp_ge (pc := 47) (tgt := 89) dX1_pass_47 (by decide) (fun c32 => ?_) (fun c32 => ?_)
  · rw [if_pos c32] at e
    cases e
    exact V_pick [] rfl (kE89 _ rfl)
  · rw [if_neg c32] at e
    refine V_pick [0, 1, 2, 3, 4] rfl ?_
    refine V_iload_n (pc := 50) (i := 2) dX1_pass_50 rfl rfl ?_
    refine V_istore (pc := 51) (i := 5) (lv' := [(5, .int v2), (0, .ref v0), (1, .ref v1), (2, .int v2), (3, .int v3), (4, .int v4)]) dX1_pass_51 (by decide) rfl ?_
    refine V_aload_n (pc := 53) (i := 0) dX1_pass_53 rfl rfl ?_
    refine V_aload_n (pc := 54) (i := 1) dX1_pass_54 rfl rfl ?_
    obtain ⟨g19, e⟩ := gd_some e
    obtain ⟨q20, g21, e⟩ := ob_some e
    refine V_getR (pc := 55) (ci := 2) (k := 16) (b := q20) dX1_pass_55 fl_X1_43 rfl (of_decide_eq_true g19) g21 ?_
    refine V_iload_n (pc := 58) (i := 2) dX1_pass_58 rfl rfl ?_
    refine V_iload (pc := 59) (i := 4) dX1_pass_59 rfl ?_
    obtain ⟨r23, h24, g22, e⟩ := ob2_some e
    obtain ⟨g25, e⟩ := gd_some e
    refine V_callV (pc := 61) (bc := 0) (bs := 0) (mc := 0) (ms := 0) (st := []) (As := [.ref q20, .int v2, .int v4]) (a := v0) (h' := h24) (r := some (.int r23)) dX1_pass_61 ml_X1_47 (ci := 1) rfl (of_decide_eq_true g25) rfl rfl (Nat.le_of_ble_eq_true rfl) (d' := 0) (by decide) (c_X1_walkAll (l := x.2.1) v0 q20 v2 v4 h g22) ?_
    refine V_istore_n (pc := 64) (i := 2) (lv' := [(2, .int r23), (5, .int v2), (0, .ref v0), (1, .ref v1), (3, .int v3), (4, .int v4)]) dX1_pass_64 rfl (by decide) rfl ?_
    refine V_iload_n (pc := 65) (i := 3) dX1_pass_65 rfl rfl ?_
    refine V_if_ne (pc := 66) (tgt := 75) dX1_pass_66 (by decide) (fun c31 => ?_) (fun c31 => ?_)
    · rw [if_neg c31] at e
      exact V_pick [2, 3, 0, 5] rfl (r_X1_pass_b75 v0 v1 r23 v4 h24 e kI kE89)
    · rw [if_pos c31] at e
      refine V_pick [2, 3, 0, 4, 5, 1] rfl ?_
      refine V_iload_n (pc := 69) (i := 2) dX1_pass_69 rfl rfl ?_
      refine V_iload (pc := 70) (i := 5) dX1_pass_70 rfl ?_
      refine V_icmp_le (pc := 72) (tgt := 83) dX1_pass_72 (by decide) (fun c30 => ?_) (fun c30 => ?_)
      · rw [if_pos c30] at e
        exact V_pick [0, 1, 2, 3, 4] rfl (r_X1_pass_b83 v0 v1 r23 v3 v4 h24 e kI kE89)
      · rw [if_neg c30] at e
        exact V_pick [0, 1, 2, 4] rfl (r_X1_pass_b75 v0 v1 r23 v4 h24 e kI kE89)
set_option maxRecDepth 100000 in
def F_X1_pass_b0 (v0 : Nat) (v1 : Nat) (h : Hp) : Option (Unit × Hp) :=
  gd (decide (kd h v1 = 2)) <| ob (zR h v1 7) fun q2 => gd (decide (kd h v0 = 1)) <| ob (zR h v0 0) fun q5 => gd (decide (kd h q2 = 13)) <| gd (decide (kd h q5 = 13)) <| gd (cpk (0 : Int32) (0 : Int32) (5 : Int32) (zl h q2) (zl h q5)) <| ob (zR (cpA h q2 (0 : Int32) q5 (0 : Int32) (5 : Int32)) v0 1) fun q10 => ob (zR (cpA h q2 (0 : Int32) q5 (0 : Int32) (5 : Int32)) v1 9) fun q12 => ob2 (F_X8_copyFrom q10 q12 (cpA h q2 (0 : Int32) q5 (0 : Int32) (5 : Int32))) fun _ h16 => gd (decide (kd (cpA h q2 (0 : Int32) q5 (0 : Int32) (5 : Int32)) q10 = 7)) <| gd (decide (kd h16 v0 = 1)) <| ob (iter (fun z : Int32 × Int32 × Int32 × Hp => F_X1_pass_l42 v0 v1 z.1 z.2.1 z.2.2.1 z.2.2.2) FU ((0 : Int32), (1 : Int32), (0 : Int32), setI (setI h16 v0 2 (-1 : Int32)) v0 3 (0 : Int32))) (fun h33 => some ((), h33))
set_option maxHeartbeats 4000000 in
set_option maxRecDepth 100000 in
theorem r_X1_pass_b0 (v0 : Nat) (v1 : Nat) (h : Hp) {x : Cx} {r : Unit} {hz : Hp} (e : F_X1_pass_b0 v0 v1 h = some (r, hz)) (hF : Fin9 M_X1_pass x none none hz) : V M_X1_pass x 3 0 [(0, .ref v0), (1, .ref v1)] [] h 0 0 := by
  unfold F_X1_pass_b0 at e
  refine V_aload_n (pc := 0) (i := 1) dX1_pass_0 rfl rfl ?_
  obtain ⟨g1, e⟩ := gd_some e
  obtain ⟨q2, g3, e⟩ := ob_some e
  refine V_getR (pc := 1) (ci := 2) (k := 7) (b := q2) dX1_pass_1 fl_X1_29 rfl (of_decide_eq_true g1) g3 ?_
  refine V_iconst (pc := 4) (v := (0 : Int32)) dX1_pass_4 (by decide) ?_
  refine V_aload_n (pc := 5) (i := 0) dX1_pass_5 rfl rfl ?_
  obtain ⟨g4, e⟩ := gd_some e
  obtain ⟨q5, g6, e⟩ := ob_some e
  refine V_getR (pc := 6) (ci := 1) (k := 0) (b := q5) dX1_pass_6 fl_X1_9 rfl (of_decide_eq_true g4) g6 ?_
  refine V_iconst (pc := 9) (v := (0 : Int32)) dX1_pass_9 (by decide) ?_
  refine V_iconst (pc := 10) (v := (5 : Int32)) dX1_pass_10 (by decide) ?_
  obtain ⟨g7, e⟩ := gd_some e
  obtain ⟨g8, e⟩ := gd_some e
  obtain ⟨g9, e⟩ := gd_some e
  refine V_copy (pc := 11) dX1_pass_11 wm_X1_32 (of_decide_eq_true g7) (of_decide_eq_true g8) g9 (by decide) (Nat.le_of_ble_eq_true rfl) ?_
  refine V_aload_n (pc := 14) (i := 0) dX1_pass_14 rfl rfl ?_
  obtain ⟨q10, g11, e⟩ := ob_some e
  refine V_getR (pc := 15) (ci := 1) (k := 1) (b := q10) dX1_pass_15 fl_X1_18 rfl (of_decide_eq_true g4) g11 ?_
  refine V_aload_n (pc := 18) (i := 1) dX1_pass_18 rfl rfl ?_
  obtain ⟨q12, g13, e⟩ := ob_some e
  refine V_getR (pc := 19) (ci := 2) (k := 9) (b := q12) dX1_pass_19 fl_X1_38 rfl (of_decide_eq_true g1) g13 ?_
  obtain ⟨r15, h16, g14, e⟩ := ob2_some e
  obtain ⟨g17, e⟩ := gd_some e
  refine V_callV (pc := 22) (bc := 0) (bs := 0) (mc := 0) (ms := 0) (st := []) (As := [.ref q12]) (a := q10) (h' := h16) (r := none) dX1_pass_22 ml_X1_39 (ci := 7) rfl (of_decide_eq_true g17) rfl rfl (Nat.le_of_ble_eq_true rfl) (d' := 1) (by decide) (c_X8_copyFrom (l := x.2.1) q10 q12 (cpA h q2 (0 : Int32) q5 (0 : Int32) (5 : Int32)) g14) ?_
  refine V_aload_n (pc := 25) (i := 0) dX1_pass_25 rfl rfl ?_
  refine V_iconst (pc := 26) (v := (-1 : Int32)) dX1_pass_26 (by decide) ?_
  obtain ⟨g18, e⟩ := gd_some e
  refine V_putI (pc := 27) (ci := 1) (k := 2) dX1_pass_27 fp_X1_22 rfl (of_decide_eq_true g18) ?_
  refine V_aload_n (pc := 30) (i := 0) dX1_pass_30 rfl rfl ?_
  refine V_iconst (pc := 31) (v := (0 : Int32)) dX1_pass_31 (by decide) ?_
  refine V_putI (pc := 32) (ci := 1) (k := 3) dX1_pass_32 fp_X1_26 rfl (of_decide_eq_true g18) ?_
  refine V_iconst (pc := 35) (v := (0 : Int32)) dX1_pass_35 (by decide) ?_
  refine V_istore_n (pc := 36) (i := 2) (lv' := [(2, .int (0 : Int32)), (0, .ref v0), (1, .ref v1)]) dX1_pass_36 rfl (by decide) rfl ?_
  refine V_iconst (pc := 37) (v := (1 : Int32)) dX1_pass_37 (by decide) ?_
  refine V_istore_n (pc := 38) (i := 3) (lv' := [(3, .int (1 : Int32)), (2, .int (0 : Int32)), (0, .ref v0), (1, .ref v1)]) dX1_pass_38 rfl (by decide) rfl ?_
  refine V_iconst (pc := 39) (v := (0 : Int32)) dX1_pass_39 (by decide) ?_
  refine V_istore (pc := 40) (i := 4) (lv' := [(4, .int (0 : Int32)), (3, .int (1 : Int32)), (2, .int (0 : Int32)), (0, .ref v0), (1, .ref v1)]) dX1_pass_40 (by decide) rfl ?_
  refine V_pick [3, 4, 2, 1, 0] rfl ?_
  obtain ⟨y34, g35, e⟩ := ob_some e
  refine iter_V (P := fun z : Int32 × Int32 × Int32 × Hp => V M_X1_pass x 3 42 [(0, .ref v0), (1, .ref v1), (2, .int z.1), (3, .int z.2.1), (4, .int z.2.2.1)] [] z.2.2.2 0 0) (E := fun z : Hp => V M_X1_pass x 3 89 [] [] z 0 0) (fun z o e9 k1 k2 => r_X1_pass_l42 v0 v1 z.1 z.2.1 z.2.2.1 z.2.2.2 e9 (fun z hz9 => k1 z hz9) (fun z hz9 => k2 _ hz9)) _ _ _ g35 ?_
  clear g35
  obtain ⟨h33, rfl⟩ : ∃ q, q = y34 := ⟨_, rfl⟩
  replace e : (some ((), h33)) = some (r, hz) := e
  show V M_X1_pass x 3 89 [] [] h33 0 0
  cases e
  exact V_vret (pc := 89) dX1_pass_89 hF
def F_X1_pass (v0 : Nat) (v1 : Nat) (h : Hp) : Option (Unit × Hp) := F_X1_pass_b0 v0 v1 h
theorem c_X1_pass {l : Launch} (v0 : Nat) (v1 : Nat) (h : Hp) {r : Unit} {hz : Hp} (e : F_X1_pass v0 v1 h = some (r, hz)) : Ct l yX1_pass M_X1_pass none 3 [.ref v0, .ref v1] h 0 0 none hz :=
  Ct_of rfl rfl (fun q => by cases q) (Nat.le_of_ble_eq_true rfl) (fun x _ hF => V_pick [0, 1] rfl (r_X1_pass_b0 v0 v1 h e hF))
theorem dX3_readLine_0 : decode cX3_readLine 0 = .ok (.aload_n 1, 1) := by decide +kernel
theorem dX3_readLine_1 : decode cX3_readLine 1 = .ok (.ldc 37, 2) := by decide +kernel
theorem dX3_readLine_3 : decode cX3_readLine 3 = .ok (.invokevirtual 39, 3) := by decide +kernel
theorem dX3_readLine_6 : decode cX3_readLine 6 = .ok (.ifCond .eq 9, 3) := by decide +kernel
theorem dX3_readLine_9 : decode cX3_readLine 9 = .ok (.aload_n 0, 1) := by decide +kernel
theorem dX3_readLine_10 : decode cX3_readLine 10 = .ok (.aload_n 1, 1) := by decide +kernel
theorem dX3_readLine_11 : decode cX3_readLine 11 = .ok (.invokevirtual 45, 3) := by decide +kernel
theorem dX3_readLine_14 : decode cX3_readLine 14 = .ok (.ireturn, 1) := by decide +kernel
theorem dX3_readLine_15 : decode cX3_readLine 15 = .ok (.aload_n 1, 1) := by decide +kernel
theorem dX3_readLine_16 : decode cX3_readLine 16 = .ok (.ldc 49, 2) := by decide +kernel
theorem dX3_readLine_18 : decode cX3_readLine 18 = .ok (.invokevirtual 39, 3) := by decide +kernel
theorem dX3_readLine_21 : decode cX3_readLine 21 = .ok (.ifCond .eq 9, 3) := by decide +kernel
theorem dX3_readLine_24 : decode cX3_readLine 24 = .ok (.aload_n 0, 1) := by decide +kernel
theorem dX3_readLine_25 : decode cX3_readLine 25 = .ok (.aload_n 1, 1) := by decide +kernel
theorem dX3_readLine_26 : decode cX3_readLine 26 = .ok (.invokevirtual 51, 3) := by decide +kernel
theorem dX3_readLine_29 : decode cX3_readLine 29 = .ok (.ireturn, 1) := by decide +kernel
theorem dX3_readLine_30 : decode cX3_readLine 30 = .ok (.aload_n 1, 1) := by decide +kernel
theorem dX3_readLine_31 : decode cX3_readLine 31 = .ok (.ldc 54, 2) := by decide +kernel
theorem dX3_readLine_33 : decode cX3_readLine 33 = .ok (.invokevirtual 39, 3) := by decide +kernel
theorem dX3_readLine_36 : decode cX3_readLine 36 = .ok (.ifCond .eq 9, 3) := by decide +kernel
theorem dX3_readLine_39 : decode cX3_readLine 39 = .ok (.aload_n 0, 1) := by decide +kernel
theorem dX3_readLine_40 : decode cX3_readLine 40 = .ok (.aload_n 1, 1) := by decide +kernel
theorem dX3_readLine_41 : decode cX3_readLine 41 = .ok (.invokevirtual 56, 3) := by decide +kernel
theorem dX3_readLine_44 : decode cX3_readLine 44 = .ok (.ireturn, 1) := by decide +kernel
theorem dX3_readLine_45 : decode cX3_readLine 45 = .ok (.aload_n 1, 1) := by decide +kernel
theorem dX3_readLine_46 : decode cX3_readLine 46 = .ok (.ldc 59, 2) := by decide +kernel
theorem dX3_readLine_48 : decode cX3_readLine 48 = .ok (.invokevirtual 39, 3) := by decide +kernel
theorem dX3_readLine_51 : decode cX3_readLine 51 = .ok (.ifCond .eq 53, 3) := by decide +kernel
theorem dX3_readLine_54 : decode cX3_readLine 54 = .ok (.aload_n 0, 1) := by decide +kernel
theorem dX3_readLine_55 : decode cX3_readLine 55 = .ok (.iconst 3, 1) := by decide +kernel
theorem dX3_readLine_56 : decode cX3_readLine 56 = .ok (.aload_n 1, 1) := by decide +kernel
theorem dX3_readLine_57 : decode cX3_readLine 57 = .ok (.invokevirtual 61, 3) := by decide +kernel
theorem dX3_readLine_60 : decode cX3_readLine 60 = .ok (.aload_n 0, 1) := by decide +kernel
theorem dX3_readLine_61 : decode cX3_readLine 61 = .ok (.iconst 1, 1) := by decide +kernel
theorem dX3_readLine_62 : decode cX3_readLine 62 = .ok (.iconst 0, 1) := by decide +kernel
theorem dX3_readLine_63 : decode cX3_readLine 63 = .ok (.sipush 999, 3) := by decide +kernel
theorem dX3_readLine_66 : decode cX3_readLine 66 = .ok (.aload_n 1, 1) := by decide +kernel
theorem dX3_readLine_67 : decode cX3_readLine 67 = .ok (.invokevirtual 65, 3) := by decide +kernel
theorem dX3_readLine_70 : decode cX3_readLine 70 = .ok (.ifCond .eq 32, 3) := by decide +kernel
theorem dX3_readLine_73 : decode cX3_readLine 73 = .ok (.aload_n 1, 1) := by decide +kernel
theorem dX3_readLine_74 : decode cX3_readLine 74 = .ok (.ldc 69, 2) := by decide +kernel
theorem dX3_readLine_76 : decode cX3_readLine 76 = .ok (.invokevirtual 71, 3) := by decide +kernel
theorem dX3_readLine_79 : decode cX3_readLine 79 = .ok (.ifCond .eq 23, 3) := by decide +kernel
theorem dX3_readLine_82 : decode cX3_readLine 82 = .ok (.aload_n 0, 1) := by decide +kernel
theorem dX3_readLine_83 : decode cX3_readLine 83 = .ok (.iconst 2, 1) := by decide +kernel
theorem dX3_readLine_84 : decode cX3_readLine 84 = .ok (.iconst 0, 1) := by decide +kernel
theorem dX3_readLine_85 : decode cX3_readLine 85 = .ok (.aload_n 0, 1) := by decide +kernel
theorem dX3_readLine_86 : decode cX3_readLine 86 = .ok (.getfield 15, 3) := by decide +kernel
theorem dX3_readLine_89 : decode cX3_readLine 89 = .ok (.iconst 1, 1) := by decide +kernel
theorem dX3_readLine_90 : decode cX3_readLine 90 = .ok (.isub, 1) := by decide +kernel
theorem dX3_readLine_91 : decode cX3_readLine 91 = .ok (.aload_n 1, 1) := by decide +kernel
theorem dX3_readLine_92 : decode cX3_readLine 92 = .ok (.invokevirtual 65, 3) := by decide +kernel
theorem dX3_readLine_95 : decode cX3_readLine 95 = .ok (.ifCond .eq 7, 3) := by decide +kernel
theorem dX3_readLine_98 : decode cX3_readLine 98 = .ok (.iconst 1, 1) := by decide +kernel
theorem dX3_readLine_99 : decode cX3_readLine 99 = .ok (.goto 4, 3) := by decide +kernel
theorem dX3_readLine_102 : decode cX3_readLine 102 = .ok (.iconst 0, 1) := by decide +kernel
theorem dX3_readLine_103 : decode cX3_readLine 103 = .ok (.ireturn, 1) := by decide +kernel
theorem dX3_readLine_104 : decode cX3_readLine 104 = .ok (.aload_n 1, 1) := by decide +kernel
theorem dX3_readLine_105 : decode cX3_readLine 105 = .ok (.ldc 74, 2) := by decide +kernel
theorem dX3_readLine_107 : decode cX3_readLine 107 = .ok (.invokevirtual 39, 3) := by decide +kernel
theorem dX3_readLine_110 : decode cX3_readLine 110 = .ok (.ifCond .eq 44, 3) := by decide +kernel
theorem dX3_readLine_113 : decode cX3_readLine 113 = .ok (.aload_n 0, 1) := by decide +kernel
theorem dX3_readLine_114 : decode cX3_readLine 114 = .ok (.iconst 4, 1) := by decide +kernel
theorem dX3_readLine_115 : decode cX3_readLine 115 = .ok (.aload_n 1, 1) := by decide +kernel
theorem dX3_readLine_116 : decode cX3_readLine 116 = .ok (.invokevirtual 61, 3) := by decide +kernel
theorem dX3_readLine_119 : decode cX3_readLine 119 = .ok (.aload_n 0, 1) := by decide +kernel
theorem dX3_readLine_120 : decode cX3_readLine 120 = .ok (.iconst 1, 1) := by decide +kernel
theorem dX3_readLine_121 : decode cX3_readLine 121 = .ok (.iconst 0, 1) := by decide +kernel
theorem dX3_readLine_122 : decode cX3_readLine 122 = .ok (.aload_n 0, 1) := by decide +kernel
theorem dX3_readLine_123 : decode cX3_readLine 123 = .ok (.getfield 15, 3) := by decide +kernel
theorem dX3_readLine_126 : decode cX3_readLine 126 = .ok (.iconst 1, 1) := by decide +kernel
theorem dX3_readLine_127 : decode cX3_readLine 127 = .ok (.isub, 1) := by decide +kernel
theorem dX3_readLine_128 : decode cX3_readLine 128 = .ok (.aload_n 1, 1) := by decide +kernel
theorem dX3_readLine_129 : decode cX3_readLine 129 = .ok (.invokevirtual 65, 3) := by decide +kernel
theorem dX3_readLine_132 : decode cX3_readLine 132 = .ok (.ifCond .eq 20, 3) := by decide +kernel
theorem dX3_readLine_135 : decode cX3_readLine 135 = .ok (.aload_n 0, 1) := by decide +kernel
theorem dX3_readLine_136 : decode cX3_readLine 136 = .ok (.iconst 2, 1) := by decide +kernel
theorem dX3_readLine_137 : decode cX3_readLine 137 = .ok (.iconst 0, 1) := by decide +kernel
theorem dX3_readLine_138 : decode cX3_readLine 138 = .ok (.sipush 999, 3) := by decide +kernel
theorem dX3_readLine_141 : decode cX3_readLine 141 = .ok (.aload_n 1, 1) := by decide +kernel
theorem dX3_readLine_142 : decode cX3_readLine 142 = .ok (.invokevirtual 65, 3) := by decide +kernel
theorem dX3_readLine_145 : decode cX3_readLine 145 = .ok (.ifCond .eq 7, 3) := by decide +kernel
theorem dX3_readLine_148 : decode cX3_readLine 148 = .ok (.iconst 1, 1) := by decide +kernel
theorem dX3_readLine_149 : decode cX3_readLine 149 = .ok (.goto 4, 3) := by decide +kernel
theorem dX3_readLine_152 : decode cX3_readLine 152 = .ok (.iconst 0, 1) := by decide +kernel
theorem dX3_readLine_153 : decode cX3_readLine 153 = .ok (.ireturn, 1) := by decide +kernel
theorem dX3_readLine_154 : decode cX3_readLine 154 = .ok (.aload_n 1, 1) := by decide +kernel
theorem dX3_readLine_155 : decode cX3_readLine 155 = .ok (.ldc 76, 2) := by decide +kernel
theorem dX3_readLine_157 : decode cX3_readLine 157 = .ok (.invokevirtual 39, 3) := by decide +kernel
theorem dX3_readLine_160 : decode cX3_readLine 160 = .ok (.ifCond .eq 19, 3) := by decide +kernel
theorem dX3_readLine_163 : decode cX3_readLine 163 = .ok (.aload_n 0, 1) := by decide +kernel
theorem dX3_readLine_164 : decode cX3_readLine 164 = .ok (.iconst 5, 1) := by decide +kernel
theorem dX3_readLine_165 : decode cX3_readLine 165 = .ok (.aload_n 1, 1) := by decide +kernel
theorem dX3_readLine_166 : decode cX3_readLine 166 = .ok (.invokevirtual 61, 3) := by decide +kernel
theorem dX3_readLine_169 : decode cX3_readLine 169 = .ok (.aload_n 0, 1) := by decide +kernel
theorem dX3_readLine_170 : decode cX3_readLine 170 = .ok (.iconst 1, 1) := by decide +kernel
theorem dX3_readLine_171 : decode cX3_readLine 171 = .ok (.iconst 0, 1) := by decide +kernel
theorem dX3_readLine_172 : decode cX3_readLine 172 = .ok (.ldc 78, 2) := by decide +kernel
theorem dX3_readLine_174 : decode cX3_readLine 174 = .ok (.aload_n 1, 1) := by decide +kernel
theorem dX3_readLine_175 : decode cX3_readLine 175 = .ok (.invokevirtual 65, 3) := by decide +kernel
theorem dX3_readLine_178 : decode cX3_readLine 178 = .ok (.ireturn, 1) := by decide +kernel
theorem dX3_readLine_179 : decode cX3_readLine 179 = .ok (.aload_n 1, 1) := by decide +kernel
theorem dX3_readLine_180 : decode cX3_readLine 180 = .ok (.ldc 79, 2) := by decide +kernel
theorem dX3_readLine_182 : decode cX3_readLine 182 = .ok (.invokevirtual 39, 3) := by decide +kernel
theorem dX3_readLine_185 : decode cX3_readLine 185 = .ok (.ifCond .eq 20, 3) := by decide +kernel
theorem dX3_readLine_188 : decode cX3_readLine 188 = .ok (.aload_n 0, 1) := by decide +kernel
theorem dX3_readLine_189 : decode cX3_readLine 189 = .ok (.bipush 6, 2) := by decide +kernel
theorem dX3_readLine_191 : decode cX3_readLine 191 = .ok (.aload_n 1, 1) := by decide +kernel
theorem dX3_readLine_192 : decode cX3_readLine 192 = .ok (.invokevirtual 61, 3) := by decide +kernel
theorem dX3_readLine_195 : decode cX3_readLine 195 = .ok (.aload_n 0, 1) := by decide +kernel
theorem dX3_readLine_196 : decode cX3_readLine 196 = .ok (.iconst 1, 1) := by decide +kernel
theorem dX3_readLine_197 : decode cX3_readLine 197 = .ok (.iconst 0, 1) := by decide +kernel
theorem dX3_readLine_198 : decode cX3_readLine 198 = .ok (.ldc 78, 2) := by decide +kernel
theorem dX3_readLine_200 : decode cX3_readLine 200 = .ok (.aload_n 1, 1) := by decide +kernel
theorem dX3_readLine_201 : decode cX3_readLine 201 = .ok (.invokevirtual 65, 3) := by decide +kernel
theorem dX3_readLine_204 : decode cX3_readLine 204 = .ok (.ireturn, 1) := by decide +kernel
theorem dX3_readLine_205 : decode cX3_readLine 205 = .ok (.aload_n 1, 1) := by decide +kernel
theorem dX3_readLine_206 : decode cX3_readLine 206 = .ok (.ldc 81, 2) := by decide +kernel
theorem dX3_readLine_208 : decode cX3_readLine 208 = .ok (.invokevirtual 39, 3) := by decide +kernel
theorem dX3_readLine_211 : decode cX3_readLine 211 = .ok (.ifCond .eq 24, 3) := by decide +kernel
theorem dX3_readLine_214 : decode cX3_readLine 214 = .ok (.aload_n 0, 1) := by decide +kernel
theorem dX3_readLine_215 : decode cX3_readLine 215 = .ok (.bipush 7, 2) := by decide +kernel
theorem dX3_readLine_217 : decode cX3_readLine 217 = .ok (.aload_n 1, 1) := by decide +kernel
theorem dX3_readLine_218 : decode cX3_readLine 218 = .ok (.invokevirtual 61, 3) := by decide +kernel
theorem dX3_readLine_221 : decode cX3_readLine 221 = .ok (.aload_n 0, 1) := by decide +kernel
theorem dX3_readLine_222 : decode cX3_readLine 222 = .ok (.iconst 1, 1) := by decide +kernel
theorem dX3_readLine_223 : decode cX3_readLine 223 = .ok (.iconst 0, 1) := by decide +kernel
theorem dX3_readLine_224 : decode cX3_readLine 224 = .ok (.aload_n 0, 1) := by decide +kernel
theorem dX3_readLine_225 : decode cX3_readLine 225 = .ok (.getfield 15, 3) := by decide +kernel
theorem dX3_readLine_228 : decode cX3_readLine 228 = .ok (.iconst 1, 1) := by decide +kernel
theorem dX3_readLine_229 : decode cX3_readLine 229 = .ok (.isub, 1) := by decide +kernel
theorem dX3_readLine_230 : decode cX3_readLine 230 = .ok (.aload_n 1, 1) := by decide +kernel
theorem dX3_readLine_231 : decode cX3_readLine 231 = .ok (.invokevirtual 65, 3) := by decide +kernel
theorem dX3_readLine_234 : decode cX3_readLine 234 = .ok (.ireturn, 1) := by decide +kernel
theorem dX3_readLine_235 : decode cX3_readLine 235 = .ok (.aload_n 1, 1) := by decide +kernel
theorem dX3_readLine_236 : decode cX3_readLine 236 = .ok (.ldc 83, 2) := by decide +kernel
theorem dX3_readLine_238 : decode cX3_readLine 238 = .ok (.invokevirtual 39, 3) := by decide +kernel
theorem dX3_readLine_241 : decode cX3_readLine 241 = .ok (.ifCond .eq 24, 3) := by decide +kernel
theorem dX3_readLine_244 : decode cX3_readLine 244 = .ok (.aload_n 0, 1) := by decide +kernel
theorem dX3_readLine_245 : decode cX3_readLine 245 = .ok (.bipush 8, 2) := by decide +kernel
theorem dX3_readLine_247 : decode cX3_readLine 247 = .ok (.aload_n 1, 1) := by decide +kernel
theorem dX3_readLine_248 : decode cX3_readLine 248 = .ok (.invokevirtual 61, 3) := by decide +kernel
theorem dX3_readLine_251 : decode cX3_readLine 251 = .ok (.aload_n 0, 1) := by decide +kernel
theorem dX3_readLine_252 : decode cX3_readLine 252 = .ok (.iconst 1, 1) := by decide +kernel
theorem dX3_readLine_253 : decode cX3_readLine 253 = .ok (.iconst 0, 1) := by decide +kernel
theorem dX3_readLine_254 : decode cX3_readLine 254 = .ok (.aload_n 0, 1) := by decide +kernel
theorem dX3_readLine_255 : decode cX3_readLine 255 = .ok (.getfield 15, 3) := by decide +kernel
theorem dX3_readLine_258 : decode cX3_readLine 258 = .ok (.iconst 1, 1) := by decide +kernel
theorem dX3_readLine_259 : decode cX3_readLine 259 = .ok (.isub, 1) := by decide +kernel
theorem dX3_readLine_260 : decode cX3_readLine 260 = .ok (.aload_n 1, 1) := by decide +kernel
theorem dX3_readLine_261 : decode cX3_readLine 261 = .ok (.invokevirtual 65, 3) := by decide +kernel
theorem dX3_readLine_264 : decode cX3_readLine 264 = .ok (.ireturn, 1) := by decide +kernel
theorem dX3_readLine_265 : decode cX3_readLine 265 = .ok (.aload_n 1, 1) := by decide +kernel
theorem dX3_readLine_266 : decode cX3_readLine 266 = .ok (.invokevirtual 85, 3) := by decide +kernel
theorem dX3_readLine_269 : decode cX3_readLine 269 = .ok (.ireturn, 1) := by decide +kernel
set_option maxRecDepth 100000 in
def F_X3_readLine_b153 (t0 : Int32) (h : Hp) : Option (Int32 × Hp) :=
  gd (decide (t0 = 0 ∨ t0 = 1)) <| some (t0, h)
set_option maxHeartbeats 4000000 in
set_option maxRecDepth 100000 in
theorem r_X3_readLine_b153 (t0 : Int32) (h : Hp) {x : Cx} {r : Int32} {hz : Hp} (e : F_X3_readLine_b153 t0 h = some (r, hz)) (hF : Fin9 M_X3_readLine x (some .boolean) (some (.int r)) hz) : V M_X3_readLine x 7 153 [] [.int t0] h 0 0 := by
  unfold F_X3_readLine_b153 at e
  obtain ⟨g72, e⟩ := gd_some e
  cases e
  exact V_zret (pc := 153) dX3_readLine_153 (z01 (of_decide_eq_true g72)) hF
set_option maxRecDepth 100000 in
def F_X3_readLine_b152  (h : Hp) : Option (Int32 × Hp) :=
  F_X3_readLine_b153 (0 : Int32) h
set_option maxHeartbeats 4000000 in
set_option maxRecDepth 100000 in
theorem r_X3_readLine_b152  (h : Hp) {x : Cx} {r : Int32} {hz : Hp} (e : F_X3_readLine_b152  h = some (r, hz)) (hF : Fin9 M_X3_readLine x (some .boolean) (some (.int r)) hz) : V M_X3_readLine x 7 152 [] [] h 0 0 := by
  unfold F_X3_readLine_b152 at e
  refine V_iconst (pc := 152) (v := (0 : Int32)) dX3_readLine_152 (by decide) ?_
  exact V_pick [] rfl (r_X3_readLine_b153 (0 : Int32) h e hF)
set_option maxRecDepth 100000 in
def F_X3_readLine_b103 (t0 : Int32) (h : Hp) : Option (Int32 × Hp) :=
  gd (decide (t0 = 0 ∨ t0 = 1)) <| some (t0, h)
set_option maxHeartbeats 4000000 in
set_option maxRecDepth 100000 in
theorem r_X3_readLine_b103 (t0 : Int32) (h : Hp) {x : Cx} {r : Int32} {hz : Hp} (e : F_X3_readLine_b103 t0 h = some (r, hz)) (hF : Fin9 M_X3_readLine x (some .boolean) (some (.int r)) hz) : V M_X3_readLine x 7 103 [] [.int t0] h 0 0 := by
  unfold F_X3_readLine_b103 at e
  obtain ⟨g88, e⟩ := gd_some e
  cases e
  exact V_zret (pc := 103) dX3_readLine_103 (z01 (of_decide_eq_true g88)) hF
set_option maxRecDepth 100000 in
def F_X3_readLine_b102  (h : Hp) : Option (Int32 × Hp) :=
  F_X3_readLine_b103 (0 : Int32) h
set_option maxHeartbeats 4000000 in
set_option maxRecDepth 100000 in
theorem r_X3_readLine_b102  (h : Hp) {x : Cx} {r : Int32} {hz : Hp} (e : F_X3_readLine_b102  h = some (r, hz)) (hF : Fin9 M_X3_readLine x (some .boolean) (some (.int r)) hz) : V M_X3_readLine x 7 102 [] [] h 0 0 := by
  unfold F_X3_readLine_b102 at e
  refine V_iconst (pc := 102) (v := (0 : Int32)) dX3_readLine_102 (by decide) ?_
  exact V_pick [] rfl (r_X3_readLine_b103 (0 : Int32) h e hF)
set_option maxRecDepth 100000 in
def F_X3_readLine_b0 (v0 : Nat) (v1 : Nat) (h : Hp) : Option (Int32 × Hp) :=
  ob (F_X6_isWord v1 (2 : UInt32) h) fun r2 => gd (decide (kd h v1 = 6)) <| (if r2 = 0 then ob (F_X6_isWord v1 (3 : UInt32) h) fun r5 => (if r5 = 0 then ob (F_X6_isWord v1 (5 : UInt32) h) fun r7 => (if r7 = 0 then ob (F_X6_isWord v1 (7 : UInt32) h) fun r9 => (if r9 = 0 then ob (F_X6_isWord v1 (8 : UInt32) h) fun r11 => (if r11 = 0 then ob (F_X6_isWord v1 (9 : UInt32) h) fun r13 => (if r13 = 0 then ob (F_X6_isWord v1 (10 : UInt32) h) fun r15 => (if r15 = 0 then ob (F_X6_isWord v1 (11 : UInt32) h) fun r17 => (if r17 = 0 then ob (F_X6_isWord v1 (12 : UInt32) h) fun r19 => (if r19 = 0 then ob2 (F_X6_refuse v1 h) fun r21 h22 => gd (decide (r21 = 0 ∨ r21 = 1)) <| some (r21, h22) else ob2 (F_X3_begin v0 (8 : Int32) v1 h) fun _ h26 => gd (decide (kd h v0 = 3)) <| gd (decide (kd h26 v0 = 3)) <| ob2 (F_X3_keep v0 (1 : Int32) (0 : Int32) ((zI h26 v0 2) - (1 : Int32)) v1 h26) fun r30 h31 => gd (decide (r30 = 0 ∨ r30 = 1)) <| some (r30, h31)) else ob2 (F_X3_begin v0 (7 : Int32) v1 h) fun _ h36 => gd (decide (kd h v0 = 3)) <| gd (decide (kd h36 v0 = 3)) <| ob2 (F_X3_keep v0 (1 : Int32) (0 : Int32) ((zI h36 v0 2) - (1 : Int32)) v1 h36) fun r40 h41 => gd (decide (r40 = 0 ∨ r40 = 1)) <| some (r40, h41)) else ob2 (F_X3_begin v0 (6 : Int32) v1 h) fun _ h46 => gd (decide (kd h v0 = 3)) <| ob2 (F_X3_keep v0 (1 : Int32) (0 : Int32) (99999 : Int32) v1 h46) fun r49 h50 => gd (decide (kd h46 v0 = 3)) <| gd (decide (r49 = 0 ∨ r49 = 1)) <| some (r49, h50)) else ob2 (F_X3_begin v0 (5 : Int32) v1 h) fun _ h56 => gd (decide (kd h v0 = 3)) <| ob2 (F_X3_keep v0 (1 : Int32) (0 : Int32) (99999 : Int32) v1 h56) fun r59 h60 => gd (decide (kd h56 v0 = 3)) <| gd (decide (r59 = 0 ∨ r59 = 1)) <| some (r59, h60)) else ob2 (F_X3_begin v0 (4 : Int32) v1 h) fun _ h66 => gd (decide (kd h v0 = 3)) <| gd (decide (kd h66 v0 = 3)) <| ob2 (F_X3_keep v0 (1 : Int32) (0 : Int32) ((zI h66 v0 2) - (1 : Int32)) v1 h66) fun r70 h71 => (if r70 = 0 then F_X3_readLine_b152 h71 else ob2 (F_X3_keep v0 (2 : Int32) (0 : Int32) (999 : Int32) v1 h71) fun r74 h75 => gd (decide (kd h71 v0 = 3)) <| (if r74 = 0 then F_X3_readLine_b152 h75 else F_X3_readLine_b153 (1 : Int32) h75))) else ob2 (F_X3_begin v0 (3 : Int32) v1 h) fun _ h82 => gd (decide (kd h v0 = 3)) <| ob2 (F_X3_keep v0 (1 : Int32) (0 : Int32) (999 : Int32) v1 h82) fun r85 h86 => gd (decide (kd h82 v0 = 3)) <| (if r85 = 0 then F_X3_readLine_b102 h86 else ob2 (F_X6_takeWord v1 (4 : UInt32) h86) fun r90 h91 => gd (decide (kd h86 v1 = 6)) <| (if r90 = 0 then F_X3_readLine_b102 h91 else gd (decide (kd h91 v0 = 3)) <| ob2 (F_X3_keep v0 (2 : Int32) (0 : Int32) ((zI h91 v0 2) - (1 : Int32)) v1 h91) fun r95 h96 => (if r95 = 0 then F_X3_readLine_b102 h96 else F_X3_readLine_b103 (1 : Int32) h96)))) else ob2 (F_X3_readTrunk v0 v1 h) fun r102 h103 => gd (decide (kd h v0 = 3)) <| gd (decide (r102 = 0 ∨ r102 = 1)) <| some (r102, h103)) else ob2 (F_X3_readGuest v0 v1 h) fun r108 h109 => gd (decide (kd h v0 = 3)) <| gd (decide (r108 = 0 ∨ r108 = 1)) <| some (r108, h109)) else ob2 (F_X3_readRoom v0 v1 h) fun r114 h115 => gd (decide (kd h v0 = 3)) <| gd (decide (r114 = 0 ∨ r114 = 1)) <| some (r114, h115))
set_option maxHeartbeats 4000000 in
set_option maxRecDepth 100000 in
theorem r_X3_readLine_b0 (v0 : Nat) (v1 : Nat) (h : Hp) {x : Cx} {r : Int32} {hz : Hp} (e : F_X3_readLine_b0 v0 v1 h = some (r, hz)) (hF : Fin9 M_X3_readLine x (some .boolean) (some (.int r)) hz) : V M_X3_readLine x 7 0 [(0, .ref v0), (1, .ref v1)] [] h 0 0 := by
  unfold F_X3_readLine_b0 at e
  refine V_aload_n (pc := 0) (i := 1) dX3_readLine_0 rfl rfl ?_
  refine V_ldcS (pc := 1) (j := 2) (u := (2 : UInt32)) dX3_readLine_1 rfl (by decide) ?_
  obtain ⟨r2, g1, e⟩ := ob_some e
  obtain ⟨g3, e⟩ := gd_some e
  refine V_callV (pc := 3) (bc := 0) (bs := 0) (mc := 0) (ms := 0) (st := []) (As := [.float (2 : UInt32)]) (a := v1) (h' := h) (r := some (.int r2)) dX3_readLine_3 ml_X3_39 (ci := 6) rfl (of_decide_eq_true g3) rfl rfl (Nat.le_of_ble_eq_true rfl) (d' := 4) (by decide) (c_X6_isWord (l := x.2.1) v1 (2 : UInt32) h g1) ?_
  refine V_if_eq (pc := 6) (tgt := 15) dX3_readLine_6 (by decide) (fun c118 => ?_) (fun c118 => ?_)
  · rw [if_pos c118] at e
    refine V_pick [0, 1] rfl ?_
    refine V_aload_n (pc := 15) (i := 1) dX3_readLine_15 rfl rfl ?_
    refine V_ldcS (pc := 16) (j := 3) (u := (3 : UInt32)) dX3_readLine_16 rfl (by decide) ?_
    obtain ⟨r5, g4, e⟩ := ob_some e
    refine V_callV (pc := 18) (bc := 0) (bs := 0) (mc := 0) (ms := 0) (st := []) (As := [.float (3 : UInt32)]) (a := v1) (h' := h) (r := some (.int r5)) dX3_readLine_18 ml_X3_39 (ci := 6) rfl (of_decide_eq_true g3) rfl rfl (Nat.le_of_ble_eq_true rfl) (d' := 4) (by decide) (c_X6_isWord (l := x.2.1) v1 (3 : UInt32) h g4) ?_
    refine V_if_eq (pc := 21) (tgt := 30) dX3_readLine_21 (by decide) (fun c112 => ?_) (fun c112 => ?_)
    · rw [if_pos c112] at e
      refine V_pick [0, 1] rfl ?_
      refine V_aload_n (pc := 30) (i := 1) dX3_readLine_30 rfl rfl ?_
      refine V_ldcS (pc := 31) (j := 5) (u := (5 : UInt32)) dX3_readLine_31 rfl (by decide) ?_
      obtain ⟨r7, g6, e⟩ := ob_some e
      refine V_callV (pc := 33) (bc := 0) (bs := 0) (mc := 0) (ms := 0) (st := []) (As := [.float (5 : UInt32)]) (a := v1) (h' := h) (r := some (.int r7)) dX3_readLine_33 ml_X3_39 (ci := 6) rfl (of_decide_eq_true g3) rfl rfl (Nat.le_of_ble_eq_true rfl) (d' := 4) (by decide) (c_X6_isWord (l := x.2.1) v1 (5 : UInt32) h g6) ?_
      refine V_if_eq (pc := 36) (tgt := 45) dX3_readLine_36 (by decide) (fun c106 => ?_) (fun c106 => ?_)
      · rw [if_pos c106] at e
        refine V_pick [0, 1] rfl ?_
        refine V_aload_n (pc := 45) (i := 1) dX3_readLine_45 rfl rfl ?_
        refine V_ldcS (pc := 46) (j := 7) (u := (7 : UInt32)) dX3_readLine_46 rfl (by decide) ?_
        obtain ⟨r9, g8, e⟩ := ob_some e
        refine V_callV (pc := 48) (bc := 0) (bs := 0) (mc := 0) (ms := 0) (st := []) (As := [.float (7 : UInt32)]) (a := v1) (h' := h) (r := some (.int r9)) dX3_readLine_48 ml_X3_39 (ci := 6) rfl (of_decide_eq_true g3) rfl rfl (Nat.le_of_ble_eq_true rfl) (d' := 4) (by decide) (c_X6_isWord (l := x.2.1) v1 (7 : UInt32) h g8) ?_
        refine V_if_eq (pc := 51) (tgt := 104) dX3_readLine_51 (by decide) (fun c100 => ?_) (fun c100 => ?_)
        · rw [if_pos c100] at e
          refine V_pick [0, 1] rfl ?_
          refine V_aload_n (pc := 104) (i := 1) dX3_readLine_104 rfl rfl ?_
          refine V_ldcS (pc := 105) (j := 8) (u := (8 : UInt32)) dX3_readLine_105 rfl (by decide) ?_
          obtain ⟨r11, g10, e⟩ := ob_some e
          refine V_callV (pc := 107) (bc := 0) (bs := 0) (mc := 0) (ms := 0) (st := []) (As := [.float (8 : UInt32)]) (a := v1) (h' := h) (r := some (.int r11)) dX3_readLine_107 ml_X3_39 (ci := 6) rfl (of_decide_eq_true g3) rfl rfl (Nat.le_of_ble_eq_true rfl) (d' := 4) (by decide) (c_X6_isWord (l := x.2.1) v1 (8 : UInt32) h g10) ?_
          refine V_if_eq (pc := 110) (tgt := 154) dX3_readLine_110 (by decide) (fun c79 => ?_) (fun c79 => ?_)
          · rw [if_pos c79] at e
            refine V_pick [0, 1] rfl ?_
            refine V_aload_n (pc := 154) (i := 1) dX3_readLine_154 rfl rfl ?_
            refine V_ldcS (pc := 155) (j := 9) (u := (9 : UInt32)) dX3_readLine_155 rfl (by decide) ?_
            obtain ⟨r13, g12, e⟩ := ob_some e
            refine V_callV (pc := 157) (bc := 0) (bs := 0) (mc := 0) (ms := 0) (st := []) (As := [.float (9 : UInt32)]) (a := v1) (h' := h) (r := some (.int r13)) dX3_readLine_157 ml_X3_39 (ci := 6) rfl (of_decide_eq_true g3) rfl rfl (Nat.le_of_ble_eq_true rfl) (d' := 4) (by decide) (c_X6_isWord (l := x.2.1) v1 (9 : UInt32) h g12) ?_
            refine V_if_eq (pc := 160) (tgt := 179) dX3_readLine_160 (by decide) (fun c63 => ?_) (fun c63 => ?_)
            · rw [if_pos c63] at e
              refine V_pick [0, 1] rfl ?_
              refine V_aload_n (pc := 179) (i := 1) dX3_readLine_179 rfl rfl ?_
              refine V_ldcS (pc := 180) (j := 10) (u := (10 : UInt32)) dX3_readLine_180 rfl (by decide) ?_
              obtain ⟨r15, g14, e⟩ := ob_some e
              refine V_callV (pc := 182) (bc := 0) (bs := 0) (mc := 0) (ms := 0) (st := []) (As := [.float (10 : UInt32)]) (a := v1) (h' := h) (r := some (.int r15)) dX3_readLine_182 ml_X3_39 (ci := 6) rfl (of_decide_eq_true g3) rfl rfl (Nat.le_of_ble_eq_true rfl) (d' := 4) (by decide) (c_X6_isWord (l := x.2.1) v1 (10 : UInt32) h g14) ?_
              refine V_if_eq (pc := 185) (tgt := 205) dX3_readLine_185 (by decide) (fun c53 => ?_) (fun c53 => ?_)
              · rw [if_pos c53] at e
                refine V_pick [0, 1] rfl ?_
                refine V_aload_n (pc := 205) (i := 1) dX3_readLine_205 rfl rfl ?_
                refine V_ldcS (pc := 206) (j := 11) (u := (11 : UInt32)) dX3_readLine_206 rfl (by decide) ?_
                obtain ⟨r17, g16, e⟩ := ob_some e
                refine V_callV (pc := 208) (bc := 0) (bs := 0) (mc := 0) (ms := 0) (st := []) (As := [.float (11 : UInt32)]) (a := v1) (h' := h) (r := some (.int r17)) dX3_readLine_208 ml_X3_39 (ci := 6) rfl (of_decide_eq_true g3) rfl rfl (Nat.le_of_ble_eq_true rfl) (d' := 4) (by decide) (c_X6_isWord (l := x.2.1) v1 (11 : UInt32) h g16) ?_
                refine V_if_eq (pc := 211) (tgt := 235) dX3_readLine_211 (by decide) (fun c43 => ?_) (fun c43 => ?_)
                · rw [if_pos c43] at e
                  refine V_pick [0, 1] rfl ?_
                  refine V_aload_n (pc := 235) (i := 1) dX3_readLine_235 rfl rfl ?_
                  refine V_ldcS (pc := 236) (j := 12) (u := (12 : UInt32)) dX3_readLine_236 rfl (by decide) ?_
                  obtain ⟨r19, g18, e⟩ := ob_some e
                  refine V_callV (pc := 238) (bc := 0) (bs := 0) (mc := 0) (ms := 0) (st := []) (As := [.float (12 : UInt32)]) (a := v1) (h' := h) (r := some (.int r19)) dX3_readLine_238 ml_X3_39 (ci := 6) rfl (of_decide_eq_true g3) rfl rfl (Nat.le_of_ble_eq_true rfl) (d' := 4) (by decide) (c_X6_isWord (l := x.2.1) v1 (12 : UInt32) h g18) ?_
                  refine V_if_eq (pc := 241) (tgt := 265) dX3_readLine_241 (by decide) (fun c33 => ?_) (fun c33 => ?_)
                  · rw [if_pos c33] at e
                    refine V_pick [1] rfl ?_
                    refine V_aload_n (pc := 265) (i := 1) dX3_readLine_265 rfl rfl ?_
                    obtain ⟨r21, h22, g20, e⟩ := ob2_some e
                    refine V_callV (pc := 266) (bc := 0) (bs := 0) (mc := 0) (ms := 0) (st := []) (As := []) (a := v1) (h' := h22) (r := some (.int r21)) dX3_readLine_266 ml_X3_85 (ci := 6) rfl (of_decide_eq_true g3) rfl rfl (Nat.le_of_ble_eq_true rfl) (d' := 0) (by decide) (c_X6_refuse (l := x.2.1) v1 h g20) ?_
                    obtain ⟨g23, e⟩ := gd_some e
                    cases e
                    exact V_zret (pc := 269) dX3_readLine_269 (z01 (of_decide_eq_true g23)) hF
                  · rw [if_neg c33] at e
                    refine V_pick [0, 1] rfl ?_
                    refine V_aload_n (pc := 244) (i := 0) dX3_readLine_244 rfl rfl ?_
                    refine V_bipush (pc := 245) (v := (8 : Int32)) dX3_readLine_245 (by decide) ?_
                    refine V_aload_n (pc := 247) (i := 1) dX3_readLine_247 rfl rfl ?_
                    obtain ⟨r25, h26, g24, e⟩ := ob2_some e
                    obtain ⟨g27, e⟩ := gd_some e
                    refine V_callV (pc := 248) (bc := 0) (bs := 0) (mc := 0) (ms := 0) (st := []) (As := [.int (8 : Int32), .ref v1]) (a := v0) (h' := h26) (r := none) dX3_readLine_248 ml_X3_61 (ci := 3) rfl (of_decide_eq_true g27) rfl rfl (Nat.le_of_ble_eq_true rfl) (d' := 2) (by decide) (c_X3_begin (l := x.2.1) v0 (8 : Int32) v1 h g24) ?_
                    refine V_aload_n (pc := 251) (i := 0) dX3_readLine_251 rfl rfl ?_
                    refine V_iconst (pc := 252) (v := (1 : Int32)) dX3_readLine_252 (by decide) ?_
                    refine V_iconst (pc := 253) (v := (0 : Int32)) dX3_readLine_253 (by decide) ?_
                    refine V_aload_n (pc := 254) (i := 0) dX3_readLine_254 rfl rfl ?_
                    obtain ⟨g28, e⟩ := gd_some e
                    refine V_getI (pc := 255) (ci := 3) (k := 2) dX3_readLine_255 fl_X3_15 rfl (of_decide_eq_true g28) ?_
                    refine V_iconst (pc := 258) (v := (1 : Int32)) dX3_readLine_258 (by decide) ?_
                    refine V_isub (pc := 259) dX3_readLine_259 ?_
                    refine V_aload_n (pc := 260) (i := 1) dX3_readLine_260 rfl rfl ?_
                    obtain ⟨r30, h31, g29, e⟩ := ob2_some e
                    refine V_callV (pc := 261) (bc := 0) (bs := 0) (mc := 0) (ms := 0) (st := []) (As := [.int (1 : Int32), .int (0 : Int32), .int ((zI h26 v0 2) - (1 : Int32)), .ref v1]) (a := v0) (h' := h31) (r := some (.int r30)) dX3_readLine_261 ml_X3_65 (ci := 3) rfl (of_decide_eq_true g28) rfl rfl (Nat.le_of_ble_eq_true rfl) (d' := 3) (by decide) (c_X3_keep (l := x.2.1) v0 (1 : Int32) (0 : Int32) ((zI h26 v0 2) - (1 : Int32)) v1 h26 g29) ?_
                    obtain ⟨g32, e⟩ := gd_some e
                    cases e
                    exact V_zret (pc := 264) dX3_readLine_264 (z01 (of_decide_eq_true g32)) hF
                · rw [if_neg c43] at e
                  refine V_pick [0, 1] rfl ?_
                  refine V_aload_n (pc := 214) (i := 0) dX3_readLine_214 rfl rfl ?_
                  refine V_bipush (pc := 215) (v := (7 : Int32)) dX3_readLine_215 (by decide) ?_
                  refine V_aload_n (pc := 217) (i := 1) dX3_readLine_217 rfl rfl ?_
                  obtain ⟨r35, h36, g34, e⟩ := ob2_some e
                  obtain ⟨g37, e⟩ := gd_some e
                  refine V_callV (pc := 218) (bc := 0) (bs := 0) (mc := 0) (ms := 0) (st := []) (As := [.int (7 : Int32), .ref v1]) (a := v0) (h' := h36) (r := none) dX3_readLine_218 ml_X3_61 (ci := 3) rfl (of_decide_eq_true g37) rfl rfl (Nat.le_of_ble_eq_true rfl) (d' := 2) (by decide) (c_X3_begin (l := x.2.1) v0 (7 : Int32) v1 h g34) ?_
                  refine V_aload_n (pc := 221) (i := 0) dX3_readLine_221 rfl rfl ?_
                  refine V_iconst (pc := 222) (v := (1 : Int32)) dX3_readLine_222 (by decide) ?_
                  refine V_iconst (pc := 223) (v := (0 : Int32)) dX3_readLine_223 (by decide) ?_
                  refine V_aload_n (pc := 224) (i := 0) dX3_readLine_224 rfl rfl ?_
                  obtain ⟨g38, e⟩ := gd_some e
                  refine V_getI (pc := 225) (ci := 3) (k := 2) dX3_readLine_225 fl_X3_15 rfl (of_decide_eq_true g38) ?_
                  refine V_iconst (pc := 228) (v := (1 : Int32)) dX3_readLine_228 (by decide) ?_
                  refine V_isub (pc := 229) dX3_readLine_229 ?_
                  refine V_aload_n (pc := 230) (i := 1) dX3_readLine_230 rfl rfl ?_
                  obtain ⟨r40, h41, g39, e⟩ := ob2_some e
                  refine V_callV (pc := 231) (bc := 0) (bs := 0) (mc := 0) (ms := 0) (st := []) (As := [.int (1 : Int32), .int (0 : Int32), .int ((zI h36 v0 2) - (1 : Int32)), .ref v1]) (a := v0) (h' := h41) (r := some (.int r40)) dX3_readLine_231 ml_X3_65 (ci := 3) rfl (of_decide_eq_true g38) rfl rfl (Nat.le_of_ble_eq_true rfl) (d' := 3) (by decide) (c_X3_keep (l := x.2.1) v0 (1 : Int32) (0 : Int32) ((zI h36 v0 2) - (1 : Int32)) v1 h36 g39) ?_
                  obtain ⟨g42, e⟩ := gd_some e
                  cases e
                  exact V_zret (pc := 234) dX3_readLine_234 (z01 (of_decide_eq_true g42)) hF
              · rw [if_neg c53] at e
                refine V_pick [0, 1] rfl ?_
                refine V_aload_n (pc := 188) (i := 0) dX3_readLine_188 rfl rfl ?_
                refine V_bipush (pc := 189) (v := (6 : Int32)) dX3_readLine_189 (by decide) ?_
                refine V_aload_n (pc := 191) (i := 1) dX3_readLine_191 rfl rfl ?_
                obtain ⟨r45, h46, g44, e⟩ := ob2_some e
                obtain ⟨g47, e⟩ := gd_some e
                refine V_callV (pc := 192) (bc := 0) (bs := 0) (mc := 0) (ms := 0) (st := []) (As := [.int (6 : Int32), .ref v1]) (a := v0) (h' := h46) (r := none) dX3_readLine_192 ml_X3_61 (ci := 3) rfl (of_decide_eq_true g47) rfl rfl (Nat.le_of_ble_eq_true rfl) (d' := 2) (by decide) (c_X3_begin (l := x.2.1) v0 (6 : Int32) v1 h g44) ?_
                refine V_aload_n (pc := 195) (i := 0) dX3_readLine_195 rfl rfl ?_
                refine V_iconst (pc := 196) (v := (1 : Int32)) dX3_readLine_196 (by decide) ?_
                refine V_iconst (pc := 197) (v := (0 : Int32)) dX3_readLine_197 (by decide) ?_
                refine V_ldc (pc := 198) (v := (99999 : Int32)) dX3_readLine_198 (wk_X3_78) ?_
                refine V_aload_n (pc := 200) (i := 1) dX3_readLine_200 rfl rfl ?_
                obtain ⟨r49, h50, g48, e⟩ := ob2_some e
                obtain ⟨g51, e⟩ := gd_some e
                refine V_callV (pc := 201) (bc := 0) (bs := 0) (mc := 0) (ms := 0) (st := []) (As := [.int (1 : Int32), .int (0 : Int32), .int (99999 : Int32), .ref v1]) (a := v0) (h' := h50) (r := some (.int r49)) dX3_readLine_201 ml_X3_65 (ci := 3) rfl (of_decide_eq_true g51) rfl rfl (Nat.le_of_ble_eq_true rfl) (d' := 3) (by decide) (c_X3_keep (l := x.2.1) v0 (1 : Int32) (0 : Int32) (99999 : Int32) v1 h46 g48) ?_
                obtain ⟨g52, e⟩ := gd_some e
                cases e
                exact V_zret (pc := 204) dX3_readLine_204 (z01 (of_decide_eq_true g52)) hF
            · rw [if_neg c63] at e
              refine V_pick [0, 1] rfl ?_
              refine V_aload_n (pc := 163) (i := 0) dX3_readLine_163 rfl rfl ?_
              refine V_iconst (pc := 164) (v := (5 : Int32)) dX3_readLine_164 (by decide) ?_
              refine V_aload_n (pc := 165) (i := 1) dX3_readLine_165 rfl rfl ?_
              obtain ⟨r55, h56, g54, e⟩ := ob2_some e
              obtain ⟨g57, e⟩ := gd_some e
              refine V_callV (pc := 166) (bc := 0) (bs := 0) (mc := 0) (ms := 0) (st := []) (As := [.int (5 : Int32), .ref v1]) (a := v0) (h' := h56) (r := none) dX3_readLine_166 ml_X3_61 (ci := 3) rfl (of_decide_eq_true g57) rfl rfl (Nat.le_of_ble_eq_true rfl) (d' := 2) (by decide) (c_X3_begin (l := x.2.1) v0 (5 : Int32) v1 h g54) ?_
              refine V_aload_n (pc := 169) (i := 0) dX3_readLine_169 rfl rfl ?_
              refine V_iconst (pc := 170) (v := (1 : Int32)) dX3_readLine_170 (by decide) ?_
              refine V_iconst (pc := 171) (v := (0 : Int32)) dX3_readLine_171 (by decide) ?_
              refine V_ldc (pc := 172) (v := (99999 : Int32)) dX3_readLine_172 (wk_X3_78) ?_
              refine V_aload_n (pc := 174) (i := 1) dX3_readLine_174 rfl rfl ?_
              obtain ⟨r59, h60, g58, e⟩ := ob2_some e
              obtain ⟨g61, e⟩ := gd_some e
              refine V_callV (pc := 175) (bc := 0) (bs := 0) (mc := 0) (ms := 0) (st := []) (As := [.int (1 : Int32), .int (0 : Int32), .int (99999 : Int32), .ref v1]) (a := v0) (h' := h60) (r := some (.int r59)) dX3_readLine_175 ml_X3_65 (ci := 3) rfl (of_decide_eq_true g61) rfl rfl (Nat.le_of_ble_eq_true rfl) (d' := 3) (by decide) (c_X3_keep (l := x.2.1) v0 (1 : Int32) (0 : Int32) (99999 : Int32) v1 h56 g58) ?_
              obtain ⟨g62, e⟩ := gd_some e
              cases e
              exact V_zret (pc := 178) dX3_readLine_178 (z01 (of_decide_eq_true g62)) hF
          · rw [if_neg c79] at e
            refine V_pick [0, 1] rfl ?_
            refine V_aload_n (pc := 113) (i := 0) dX3_readLine_113 rfl rfl ?_
            refine V_iconst (pc := 114) (v := (4 : Int32)) dX3_readLine_114 (by decide) ?_
            refine V_aload_n (pc := 115) (i := 1) dX3_readLine_115 rfl rfl ?_
            obtain ⟨r65, h66, g64, e⟩ := ob2_some e
            obtain ⟨g67, e⟩ := gd_some e
            refine V_callV (pc := 116) (bc := 0) (bs := 0) (mc := 0) (ms := 0) (st := []) (As := [.int (4 : Int32), .ref v1]) (a := v0) (h' := h66) (r := none) dX3_readLine_116 ml_X3_61 (ci := 3) rfl (of_decide_eq_true g67) rfl rfl (Nat.le_of_ble_eq_true rfl) (d' := 2) (by decide) (c_X3_begin (l := x.2.1) v0 (4 : Int32) v1 h g64) ?_
            refine V_aload_n (pc := 119) (i := 0) dX3_readLine_119 rfl rfl ?_
            refine V_iconst (pc := 120) (v := (1 : Int32)) dX3_readLine_120 (by decide) ?_
            refine V_iconst (pc := 121) (v := (0 : Int32)) dX3_readLine_121 (by decide) ?_
            refine V_aload_n (pc := 122) (i := 0) dX3_readLine_122 rfl rfl ?_
            obtain ⟨g68, e⟩ := gd_some e
            refine V_getI (pc := 123) (ci := 3) (k := 2) dX3_readLine_123 fl_X3_15 rfl (of_decide_eq_true g68) ?_
            refine V_iconst (pc := 126) (v := (1 : Int32)) dX3_readLine_126 (by decide) ?_
            refine V_isub (pc := 127) dX3_readLine_127 ?_
            refine V_aload_n (pc := 128) (i := 1) dX3_readLine_128 rfl rfl ?_
            obtain ⟨r70, h71, g69, e⟩ := ob2_some e
            refine V_callV (pc := 129) (bc := 0) (bs := 0) (mc := 0) (ms := 0) (st := []) (As := [.int (1 : Int32), .int (0 : Int32), .int ((zI h66 v0 2) - (1 : Int32)), .ref v1]) (a := v0) (h' := h71) (r := some (.int r70)) dX3_readLine_129 ml_X3_65 (ci := 3) rfl (of_decide_eq_true g68) rfl rfl (Nat.le_of_ble_eq_true rfl) (d' := 3) (by decide) (c_X3_keep (l := x.2.1) v0 (1 : Int32) (0 : Int32) ((zI h66 v0 2) - (1 : Int32)) v1 h66 g69) ?_
            refine V_if_eq (pc := 132) (tgt := 152) dX3_readLine_132 (by decide) (fun c78 => ?_) (fun c78 => ?_)
            · rw [if_pos c78] at e
              exact V_pick [] rfl (r_X3_readLine_b152 h71 e hF)
            · rw [if_neg c78] at e
              refine V_pick [0, 1] rfl ?_
              refine V_aload_n (pc := 135) (i := 0) dX3_readLine_135 rfl rfl ?_
              refine V_iconst (pc := 136) (v := (2 : Int32)) dX3_readLine_136 (by decide) ?_
              refine V_iconst (pc := 137) (v := (0 : Int32)) dX3_readLine_137 (by decide) ?_
              refine V_sipush (pc := 138) (v := (999 : Int32)) dX3_readLine_138 (by decide) ?_
              refine V_aload_n (pc := 141) (i := 1) dX3_readLine_141 rfl rfl ?_
              obtain ⟨r74, h75, g73, e⟩ := ob2_some e
              obtain ⟨g76, e⟩ := gd_some e
              refine V_callV (pc := 142) (bc := 0) (bs := 0) (mc := 0) (ms := 0) (st := []) (As := [.int (2 : Int32), .int (0 : Int32), .int (999 : Int32), .ref v1]) (a := v0) (h' := h75) (r := some (.int r74)) dX3_readLine_142 ml_X3_65 (ci := 3) rfl (of_decide_eq_true g76) rfl rfl (Nat.le_of_ble_eq_true rfl) (d' := 3) (by decide) (c_X3_keep (l := x.2.1) v0 (2 : Int32) (0 : Int32) (999 : Int32) v1 h71 g73) ?_
              refine V_if_eq (pc := 145) (tgt := 152) dX3_readLine_145 (by decide) (fun c77 => ?_) (fun c77 => ?_)
              · rw [if_pos c77] at e
                exact V_pick [] rfl (r_X3_readLine_b152 h75 e hF)
              · rw [if_neg c77] at e
                refine V_pick [] rfl ?_
                refine V_iconst (pc := 148) (v := (1 : Int32)) dX3_readLine_148 (by decide) ?_
                refine V_goto (pc := 149) (tgt := 153) dX3_readLine_149 (by decide) ?_
                exact V_pick [] rfl (r_X3_readLine_b153 (1 : Int32) h75 e hF)
        · rw [if_neg c100] at e
          refine V_pick [0, 1] rfl ?_
          refine V_aload_n (pc := 54) (i := 0) dX3_readLine_54 rfl rfl ?_
          refine V_iconst (pc := 55) (v := (3 : Int32)) dX3_readLine_55 (by decide) ?_
          refine V_aload_n (pc := 56) (i := 1) dX3_readLine_56 rfl rfl ?_
          obtain ⟨r81, h82, g80, e⟩ := ob2_some e
          obtain ⟨g83, e⟩ := gd_some e
          refine V_callV (pc := 57) (bc := 0) (bs := 0) (mc := 0) (ms := 0) (st := []) (As := [.int (3 : Int32), .ref v1]) (a := v0) (h' := h82) (r := none) dX3_readLine_57 ml_X3_61 (ci := 3) rfl (of_decide_eq_true g83) rfl rfl (Nat.le_of_ble_eq_true rfl) (d' := 2) (by decide) (c_X3_begin (l := x.2.1) v0 (3 : Int32) v1 h g80) ?_
          refine V_aload_n (pc := 60) (i := 0) dX3_readLine_60 rfl rfl ?_
          refine V_iconst (pc := 61) (v := (1 : Int32)) dX3_readLine_61 (by decide) ?_
          refine V_iconst (pc := 62) (v := (0 : Int32)) dX3_readLine_62 (by decide) ?_
          refine V_sipush (pc := 63) (v := (999 : Int32)) dX3_readLine_63 (by decide) ?_
          refine V_aload_n (pc := 66) (i := 1) dX3_readLine_66 rfl rfl ?_
          obtain ⟨r85, h86, g84, e⟩ := ob2_some e
          obtain ⟨g87, e⟩ := gd_some e
          refine V_callV (pc := 67) (bc := 0) (bs := 0) (mc := 0) (ms := 0) (st := []) (As := [.int (1 : Int32), .int (0 : Int32), .int (999 : Int32), .ref v1]) (a := v0) (h' := h86) (r := some (.int r85)) dX3_readLine_67 ml_X3_65 (ci := 3) rfl (of_decide_eq_true g87) rfl rfl (Nat.le_of_ble_eq_true rfl) (d' := 3) (by decide) (c_X3_keep (l := x.2.1) v0 (1 : Int32) (0 : Int32) (999 : Int32) v1 h82 g84) ?_
          refine V_if_eq (pc := 70) (tgt := 102) dX3_readLine_70 (by decide) (fun c99 => ?_) (fun c99 => ?_)
          · rw [if_pos c99] at e
            exact V_pick [] rfl (r_X3_readLine_b102 h86 e hF)
          · rw [if_neg c99] at e
            refine V_pick [0, 1] rfl ?_
            refine V_aload_n (pc := 73) (i := 1) dX3_readLine_73 rfl rfl ?_
            refine V_ldcS (pc := 74) (j := 4) (u := (4 : UInt32)) dX3_readLine_74 rfl (by decide) ?_
            obtain ⟨r90, h91, g89, e⟩ := ob2_some e
            obtain ⟨g92, e⟩ := gd_some e
            refine V_callV (pc := 76) (bc := 0) (bs := 0) (mc := 0) (ms := 0) (st := []) (As := [.float (4 : UInt32)]) (a := v1) (h' := h91) (r := some (.int r90)) dX3_readLine_76 ml_X3_71 (ci := 6) rfl (of_decide_eq_true g92) rfl rfl (Nat.le_of_ble_eq_true rfl) (d' := 5) (by decide) (c_X6_takeWord (l := x.2.1) v1 (4 : UInt32) h86 g89) ?_
            refine V_if_eq (pc := 79) (tgt := 102) dX3_readLine_79 (by decide) (fun c98 => ?_) (fun c98 => ?_)
            · rw [if_pos c98] at e
              exact V_pick [] rfl (r_X3_readLine_b102 h91 e hF)
            · rw [if_neg c98] at e
              refine V_pick [0, 1] rfl ?_
              refine V_aload_n (pc := 82) (i := 0) dX3_readLine_82 rfl rfl ?_
              refine V_iconst (pc := 83) (v := (2 : Int32)) dX3_readLine_83 (by decide) ?_
              refine V_iconst (pc := 84) (v := (0 : Int32)) dX3_readLine_84 (by decide) ?_
              refine V_aload_n (pc := 85) (i := 0) dX3_readLine_85 rfl rfl ?_
              obtain ⟨g93, e⟩ := gd_some e
              refine V_getI (pc := 86) (ci := 3) (k := 2) dX3_readLine_86 fl_X3_15 rfl (of_decide_eq_true g93) ?_
              refine V_iconst (pc := 89) (v := (1 : Int32)) dX3_readLine_89 (by decide) ?_
              refine V_isub (pc := 90) dX3_readLine_90 ?_
              refine V_aload_n (pc := 91) (i := 1) dX3_readLine_91 rfl rfl ?_
              obtain ⟨r95, h96, g94, e⟩ := ob2_some e
              refine V_callV (pc := 92) (bc := 0) (bs := 0) (mc := 0) (ms := 0) (st := []) (As := [.int (2 : Int32), .int (0 : Int32), .int ((zI h91 v0 2) - (1 : Int32)), .ref v1]) (a := v0) (h' := h96) (r := some (.int r95)) dX3_readLine_92 ml_X3_65 (ci := 3) rfl (of_decide_eq_true g93) rfl rfl (Nat.le_of_ble_eq_true rfl) (d' := 3) (by decide) (c_X3_keep (l := x.2.1) v0 (2 : Int32) (0 : Int32) ((zI h91 v0 2) - (1 : Int32)) v1 h91 g94) ?_
              refine V_if_eq (pc := 95) (tgt := 102) dX3_readLine_95 (by decide) (fun c97 => ?_) (fun c97 => ?_)
              · rw [if_pos c97] at e
                exact V_pick [] rfl (r_X3_readLine_b102 h96 e hF)
              · rw [if_neg c97] at e
                refine V_pick [] rfl ?_
                refine V_iconst (pc := 98) (v := (1 : Int32)) dX3_readLine_98 (by decide) ?_
                refine V_goto (pc := 99) (tgt := 103) dX3_readLine_99 (by decide) ?_
                exact V_pick [] rfl (r_X3_readLine_b103 (1 : Int32) h96 e hF)
      · rw [if_neg c106] at e
        refine V_pick [0, 1] rfl ?_
        refine V_aload_n (pc := 39) (i := 0) dX3_readLine_39 rfl rfl ?_
        refine V_aload_n (pc := 40) (i := 1) dX3_readLine_40 rfl rfl ?_
        obtain ⟨r102, h103, g101, e⟩ := ob2_some e
        obtain ⟨g104, e⟩ := gd_some e
        refine V_callV (pc := 41) (bc := 0) (bs := 0) (mc := 0) (ms := 0) (st := []) (As := [.ref v1]) (a := v0) (h' := h103) (r := some (.int r102)) dX3_readLine_41 ml_X3_56 (ci := 3) rfl (of_decide_eq_true g104) rfl rfl (Nat.le_of_ble_eq_true rfl) (d' := 6) (by decide) (c_X3_readTrunk (l := x.2.1) v0 v1 h g101) ?_
        obtain ⟨g105, e⟩ := gd_some e
        cases e
        exact V_zret (pc := 44) dX3_readLine_44 (z01 (of_decide_eq_true g105)) hF
    · rw [if_neg c112] at e
      refine V_pick [0, 1] rfl ?_
      refine V_aload_n (pc := 24) (i := 0) dX3_readLine_24 rfl rfl ?_
      refine V_aload_n (pc := 25) (i := 1) dX3_readLine_25 rfl rfl ?_
      obtain ⟨r108, h109, g107, e⟩ := ob2_some e
      obtain ⟨g110, e⟩ := gd_some e
      refine V_callV (pc := 26) (bc := 0) (bs := 0) (mc := 0) (ms := 0) (st := []) (As := [.ref v1]) (a := v0) (h' := h109) (r := some (.int r108)) dX3_readLine_26 ml_X3_51 (ci := 3) rfl (of_decide_eq_true g110) rfl rfl (Nat.le_of_ble_eq_true rfl) (d' := 6) (by decide) (c_X3_readGuest (l := x.2.1) v0 v1 h g107) ?_
      obtain ⟨g111, e⟩ := gd_some e
      cases e
      exact V_zret (pc := 29) dX3_readLine_29 (z01 (of_decide_eq_true g111)) hF
  · rw [if_neg c118] at e
    refine V_pick [0, 1] rfl ?_
    refine V_aload_n (pc := 9) (i := 0) dX3_readLine_9 rfl rfl ?_
    refine V_aload_n (pc := 10) (i := 1) dX3_readLine_10 rfl rfl ?_
    obtain ⟨r114, h115, g113, e⟩ := ob2_some e
    obtain ⟨g116, e⟩ := gd_some e
    refine V_callV (pc := 11) (bc := 0) (bs := 0) (mc := 0) (ms := 0) (st := []) (As := [.ref v1]) (a := v0) (h' := h115) (r := some (.int r114)) dX3_readLine_11 ml_X3_45 (ci := 3) rfl (of_decide_eq_true g116) rfl rfl (Nat.le_of_ble_eq_true rfl) (d' := 4) (by decide) (c_X3_readRoom (l := x.2.1) v0 v1 h g113) ?_
    obtain ⟨g117, e⟩ := gd_some e
    cases e
    exact V_zret (pc := 14) dX3_readLine_14 (z01 (of_decide_eq_true g117)) hF
def F_X3_readLine (v0 : Nat) (v1 : Nat) (v2 : Nat) (h : Hp) : Option (Int32 × Hp) := F_X3_readLine_b0 v0 v1 h
theorem c_X3_readLine {l : Launch} (v0 : Nat) (v1 : Nat) (v2 : Nat) (h : Hp) {r : Int32} {hz : Hp} (e : F_X3_readLine v0 v1 v2 h = some (r, hz)) : Ct l yX3_readLine M_X3_readLine (some .boolean) 7 [.ref v0, .ref v1, .ref v2] h 0 0 (some (.int r)) hz :=
  Ct_of rfl rfl (fun q => by cases q) (Nat.le_of_ble_eq_true rfl) (fun x _ hF => V_pick [0, 1] rfl (r_X3_readLine_b0 v0 v1 h e hF))
