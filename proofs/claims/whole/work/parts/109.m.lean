theorem dX2_net_0 : decode cX2_net 0 = .ok (.aload_n 0, 1) := by decide +kernel
theorem dX2_net_1 : decode cX2_net 1 = .ok (.aload_n 1, 1) := by decide +kernel
theorem dX2_net_2 : decode cX2_net 2 = .ok (.aload_n 0, 1) := by decide +kernel
theorem dX2_net_3 : decode cX2_net 3 = .ok (.getfield 53, 3) := by decide +kernel
theorem dX2_net_6 : decode cX2_net 6 = .ok (.invokevirtual 117, 3) := by decide +kernel
theorem dX2_net_9 : decode cX2_net 9 = .ok (.aload_n 0, 1) := by decide +kernel
theorem dX2_net_10 : decode cX2_net 10 = .ok (.aload_n 1, 1) := by decide +kernel
theorem dX2_net_11 : decode cX2_net 11 = .ok (.aload_n 0, 1) := by decide +kernel
theorem dX2_net_12 : decode cX2_net 12 = .ok (.getfield 34, 3) := by decide +kernel
theorem dX2_net_15 : decode cX2_net 15 = .ok (.invokevirtual 121, 3) := by decide +kernel
theorem dX2_net_18 : decode cX2_net 18 = .ok (.iadd, 1) := by decide +kernel
theorem dX2_net_19 : decode cX2_net 19 = .ok (.ireturn, 1) := by decide +kernel
set_option maxRecDepth 100000 in
def F_X2_net_b0 (v0 : Nat) (v1 : Nat) (h : Hp) : Option Int32 :=
  gd (decide (kd h v0 = 2)) <| ob (F_X2_netOfThings v0 v1 (zI h v0 11) h) fun r3 => ob (zR h v0 7) fun q4 => ob (F_X2_netOfGuests v0 v1 q4 h) fun r7 => some (r3 + r7)
set_option maxHeartbeats 4000000 in
set_option maxRecDepth 100000 in
theorem r_X2_net_b0 (v0 : Nat) (v1 : Nat) (h : Hp) {x : Cx} {r : Int32} (e : F_X2_net_b0 v0 v1 h = some r) (hF : Fin9 M_X2_net x (some .int) (some (.int r)) h) : V M_X2_net x 1 0 [(0, .ref v0), (1, .ref v1)] [] h 0 0 := by
  unfold F_X2_net_b0 at e
  refine V_aload_n (pc := 0) (i := 0) dX2_net_0 rfl rfl ?_
  refine V_aload_n (pc := 1) (i := 1) dX2_net_1 rfl rfl ?_
  refine V_aload_n (pc := 2) (i := 0) dX2_net_2 rfl rfl ?_
  obtain ⟨g1, e⟩ := gd_some e
  refine V_getI (pc := 3) (ci := 2) (k := 11) dX2_net_3 fl_X2_53 rfl (of_decide_eq_true g1) ?_
  obtain ⟨r3, g2, e⟩ := ob_some e
  refine V_callV (pc := 6) (bc := 0) (bs := 0) (mc := 0) (ms := 0) (st := []) (As := [.ref v1, .int (zI h v0 11)]) (a := v0) (h' := h) (r := some (.int r3)) dX2_net_6 ml_X2_117 (ci := 2) rfl (of_decide_eq_true g1) rfl rfl (Nat.le_of_ble_eq_true rfl) (d' := 0) (by decide) (c_X2_netOfThings (l := x.2.1) v0 v1 (zI h v0 11) h g2) ?_
  refine V_aload_n (pc := 9) (i := 0) dX2_net_9 rfl rfl ?_
  refine V_aload_n (pc := 10) (i := 1) dX2_net_10 rfl rfl ?_
  refine V_aload_n (pc := 11) (i := 0) dX2_net_11 rfl rfl ?_
  obtain ⟨q4, g5, e⟩ := ob_some e
  refine V_getR (pc := 12) (ci := 2) (k := 7) (b := q4) dX2_net_12 fl_X2_34 rfl (of_decide_eq_true g1) g5 ?_
  obtain ⟨r7, g6, e⟩ := ob_some e
  refine V_callV (pc := 15) (bc := 0) (bs := 0) (mc := 0) (ms := 0) (st := [.int r3]) (As := [.ref v1, .ref q4]) (a := v0) (h' := h) (r := some (.int r7)) dX2_net_15 ml_X2_121 (ci := 2) rfl (of_decide_eq_true g1) rfl rfl (Nat.le_of_ble_eq_true rfl) (d' := 0) (by decide) (c_X2_netOfGuests (l := x.2.1) v0 v1 q4 h g6) ?_
  refine V_iadd (pc := 18) dX2_net_18 ?_
  cases e
  exact V_iret (pc := 19) dX2_net_19 hF
def F_X2_net (v0 : Nat) (v1 : Nat) (h : Hp) : Option Int32 := F_X2_net_b0 v0 v1 h
theorem c_X2_net {l : Launch} (v0 : Nat) (v1 : Nat) (h : Hp) {r : Int32} (e : F_X2_net v0 v1 h = some r) : Ct l yX2_net M_X2_net (some .int) 1 [.ref v0, .ref v1] h 0 0 (some (.int r)) h :=
  Ct_of rfl rfl (fun q => by cases q) (Nat.le_of_ble_eq_true rfl) (fun x _ hF => V_pick [0, 1] rfl (r_X2_net_b0 v0 v1 h e hF))
theorem dX2_gain_0 : decode cX2_gain 0 = .ok (.aload_n 0, 1) := by decide +kernel
theorem dX2_gain_1 : decode cX2_gain 1 = .ok (.getfield 31, 3) := by decide +kernel
theorem dX2_gain_4 : decode cX2_gain 4 = .ok (.iload_n 1, 1) := by decide +kernel
theorem dX2_gain_5 : decode cX2_gain 5 = .ok (.iaload, 1) := by decide +kernel
theorem dX2_gain_6 : decode cX2_gain 6 = .ok (.aload_n 3, 1) := by decide +kernel
theorem dX2_gain_7 : decode cX2_gain 7 = .ok (.iload_n 2, 1) := by decide +kernel
theorem dX2_gain_8 : decode cX2_gain 8 = .ok (.iaload, 1) := by decide +kernel
theorem dX2_gain_9 : decode cX2_gain 9 = .ok (.aload_n 3, 1) := by decide +kernel
theorem dX2_gain_10 : decode cX2_gain 10 = .ok (.aload_n 0, 1) := by decide +kernel
theorem dX2_gain_11 : decode cX2_gain 11 = .ok (.getfield 34, 3) := by decide +kernel
theorem dX2_gain_14 : decode cX2_gain 14 = .ok (.iload_n 1, 1) := by decide +kernel
theorem dX2_gain_15 : decode cX2_gain 15 = .ok (.iaload, 1) := by decide +kernel
theorem dX2_gain_16 : decode cX2_gain 16 = .ok (.iaload, 1) := by decide +kernel
theorem dX2_gain_17 : decode cX2_gain 17 = .ok (.isub, 1) := by decide +kernel
theorem dX2_gain_18 : decode cX2_gain 18 = .ok (.imul, 1) := by decide +kernel
theorem dX2_gain_19 : decode cX2_gain 19 = .ok (.ireturn, 1) := by decide +kernel
set_option maxRecDepth 100000 in
def F_X2_gain_b0 (v0 : Nat) (v1 : Int32) (v2 : Int32) (v3 : Nat) (h : Hp) : Option Int32 :=
  gd (decide (kd h v0 = 2)) <| ob (zR h v0 6) fun q2 => gd (decide (kd h q2 = 13)) <| gd (ix v1 (zl h q2)) <| gd (decide (kd h v3 = 13)) <| gd (ix v2 (zl h v3)) <| ob (zR h v0 7) fun q8 => gd (decide (kd h q8 = 13)) <| gd (ix v1 (zl h q8)) <| gd (ix (zI h q8 (v1).toNatClampNeg) (zl h v3)) <| some ((zI h q2 (v1).toNatClampNeg) * ((zI h v3 (v2).toNatClampNeg) - (zI h v3 (zI h q8 (v1).toNatClampNeg).toNatClampNeg)))
set_option maxHeartbeats 4000000 in
set_option maxRecDepth 100000 in
theorem r_X2_gain_b0 (v0 : Nat) (v1 : Int32) (v2 : Int32) (v3 : Nat) (h : Hp) {x : Cx} {r : Int32} (e : F_X2_gain_b0 v0 v1 v2 v3 h = some r) (hF : Fin9 M_X2_gain x (some .int) (some (.int r)) h) : V M_X2_gain x 0 0 [(0, .ref v0), (1, .int v1), (2, .int v2), (3, .ref v3)] [] h 0 0 := by
  unfold F_X2_gain_b0 at e
  refine V_aload_n (pc := 0) (i := 0) dX2_gain_0 rfl rfl ?_
  obtain ⟨g1, e⟩ := gd_some e
  obtain ⟨q2, g3, e⟩ := ob_some e
  refine V_getR (pc := 1) (ci := 2) (k := 6) (b := q2) dX2_gain_1 fl_X2_31 rfl (of_decide_eq_true g1) g3 ?_
  refine V_iload_n (pc := 4) (i := 1) dX2_gain_4 rfl rfl ?_
  obtain ⟨g4, e⟩ := gd_some e
  obtain ⟨g5, e⟩ := gd_some e
  refine V_iald (pc := 5) dX2_gain_5 (of_decide_eq_true g4) (ix_in g5) ?_
  refine V_aload_n (pc := 6) (i := 3) dX2_gain_6 rfl rfl ?_
  refine V_iload_n (pc := 7) (i := 2) dX2_gain_7 rfl rfl ?_
  obtain ⟨g6, e⟩ := gd_some e
  obtain ⟨g7, e⟩ := gd_some e
  refine V_iald (pc := 8) dX2_gain_8 (of_decide_eq_true g6) (ix_in g7) ?_
  refine V_aload_n (pc := 9) (i := 3) dX2_gain_9 rfl rfl ?_
  refine V_aload_n (pc := 10) (i := 0) dX2_gain_10 rfl rfl ?_
  obtain ⟨q8, g9, e⟩ := ob_some e
  refine V_getR (pc := 11) (ci := 2) (k := 7) (b := q8) dX2_gain_11 fl_X2_34 rfl (of_decide_eq_true g1) g9 ?_
  refine V_iload_n (pc := 14) (i := 1) dX2_gain_14 rfl rfl ?_
  obtain ⟨g10, e⟩ := gd_some e
  obtain ⟨g11, e⟩ := gd_some e
  refine V_iald (pc := 15) dX2_gain_15 (of_decide_eq_true g10) (ix_in g11) ?_
  obtain ⟨g12, e⟩ := gd_some e
  refine V_iald (pc := 16) dX2_gain_16 (of_decide_eq_true g6) (ix_in g12) ?_
  refine V_isub (pc := 17) dX2_gain_17 ?_
  refine V_imul (pc := 18) dX2_gain_18 ?_
  cases e
  exact V_iret (pc := 19) dX2_gain_19 hF
def F_X2_gain (v0 : Nat) (v1 : Int32) (v2 : Int32) (v3 : Nat) (h : Hp) : Option Int32 := F_X2_gain_b0 v0 v1 v2 v3 h
theorem c_X2_gain {l : Launch} (v0 : Nat) (v1 : Int32) (v2 : Int32) (v3 : Nat) (h : Hp) {r : Int32} (e : F_X2_gain v0 v1 v2 v3 h = some r) : Ct l yX2_gain M_X2_gain (some .int) 0 [.ref v0, .int v1, .int v2, .ref v3] h 0 0 (some (.int r)) h :=
  Ct_of rfl rfl (fun q => by cases q) (Nat.le_of_ble_eq_true rfl) (fun x _ hF => V_pick [0, 1, 2, 3] rfl (r_X2_gain_b0 v0 v1 v2 v3 h e hF))
theorem dX2_asNumber_0 : decode cX2_asNumber 0 = .ok (.iconst 0, 1) := by decide +kernel
theorem dX2_asNumber_1 : decode cX2_asNumber 1 = .ok (.istore_n 2, 1) := by decide +kernel
theorem dX2_asNumber_2 : decode cX2_asNumber 2 = .ok (.iconst 0, 1) := by decide +kernel
theorem dX2_asNumber_3 : decode cX2_asNumber 3 = .ok (.istore_n 3, 1) := by decide +kernel
theorem dX2_asNumber_4 : decode cX2_asNumber 4 = .ok (.iload_n 3, 1) := by decide +kernel
theorem dX2_asNumber_5 : decode cX2_asNumber 5 = .ok (.aload_n 0, 1) := by decide +kernel
theorem dX2_asNumber_6 : decode cX2_asNumber 6 = .ok (.getfield 28, 3) := by decide +kernel
theorem dX2_asNumber_9 : decode cX2_asNumber 9 = .ok (.if_icmp .ge 19, 3) := by decide +kernel
theorem dX2_asNumber_12 : decode cX2_asNumber 12 = .ok (.iload_n 2, 1) := by decide +kernel
theorem dX2_asNumber_13 : decode cX2_asNumber 13 = .ok (.aload_n 1, 1) := by decide +kernel
theorem dX2_asNumber_14 : decode cX2_asNumber 14 = .ok (.iload_n 3, 1) := by decide +kernel
theorem dX2_asNumber_15 : decode cX2_asNumber 15 = .ok (.iaload, 1) := by decide +kernel
theorem dX2_asNumber_16 : decode cX2_asNumber 16 = .ok (.iconst 3, 1) := by decide +kernel
theorem dX2_asNumber_17 : decode cX2_asNumber 17 = .ok (.iload_n 3, 1) := by decide +kernel
theorem dX2_asNumber_18 : decode cX2_asNumber 18 = .ok (.imul, 1) := by decide +kernel
theorem dX2_asNumber_19 : decode cX2_asNumber 19 = .ok (.ishl, 1) := by decide +kernel
theorem dX2_asNumber_20 : decode cX2_asNumber 20 = .ok (.iadd, 1) := by decide +kernel
theorem dX2_asNumber_21 : decode cX2_asNumber 21 = .ok (.istore_n 2, 1) := by decide +kernel
theorem dX2_asNumber_22 : decode cX2_asNumber 22 = .ok (.iinc 3 1, 3) := by decide +kernel
theorem dX2_asNumber_25 : decode cX2_asNumber 25 = .ok (.goto (-21), 3) := by decide +kernel
theorem dX2_asNumber_28 : decode cX2_asNumber 28 = .ok (.iload_n 2, 1) := by decide +kernel
theorem dX2_asNumber_29 : decode cX2_asNumber 29 = .ok (.ireturn, 1) := by decide +kernel
set_option maxRecDepth 100000 in
def F_X2_asNumber_l4 (v0 : Nat) (v1 : Nat) (v2 : Int32) (v3 : Int32) (h : Hp) : Option ((Int32 × Int32) ⊕ Int32) :=
  gd (decide (kd h v0 = 2)) <| (if (zI h v0 5) ≤ v3 then some (.inr v2) else gd (decide (kd h v1 = 13)) <| gd (ix v3 (zl h v1)) <| some (.inl (v2 + ((zI h v1 (v3).toNatClampNeg) <<< (((3 : Int32) * v3) &&& 31)), v3 + (1 : Int32))))
set_option maxHeartbeats 4000000 in
set_option maxRecDepth 100000 in
theorem r_X2_asNumber_l4 (v0 : Nat) (v1 : Nat) (v2 : Int32) (v3 : Int32) (h : Hp) {x : Cx} {o : ((Int32 × Int32) ⊕ Int32)} (e : F_X2_asNumber_l4 v0 v1 v2 v3 h = some o) (kI : ∀ z, o = .inl z → V M_X2_asNumber x 0 4 [(0, .ref v0), (1, .ref v1), (2, .int z.1), (3, .int z.2)] [] h 0 0) (kE28 : ∀ z : Int32, o = .inr z → V M_X2_asNumber x 0 28 [(2, .int z)] [] h 0 0) : V M_X2_asNumber x 0 4 [(0, .ref v0), (1, .ref v1), (2, .int v2), (3, .int v3)] [] h 0 0 := by
  unfold F_X2_asNumber_l4 at e
  refine V_iload_n (pc := 4) (i := 3) dX2_asNumber_4 rfl rfl ?_
  refine V_aload_n (pc := 5) (i := 0) dX2_asNumber_5 rfl rfl ?_
  obtain ⟨g1, e⟩ := gd_some e
  refine V_getI (pc := 6) (ci := 2) (k := 5) dX2_asNumber_6 fl_X2_28 rfl (of_decide_eq_true g1) ?_
  refine V_icmp_ge (pc := 9) (tgt := 28) dX2_asNumber_9 (by decide) (fun c4 => ?_) (fun c4 => ?_)
  · rw [if_pos c4] at e
    cases e
    exact V_pick [2] rfl (kE28 v2 rfl)
  · rw [if_neg c4] at e
    refine V_pick [0, 1, 2, 3] rfl ?_
    refine V_iload_n (pc := 12) (i := 2) dX2_asNumber_12 rfl rfl ?_
    refine V_aload_n (pc := 13) (i := 1) dX2_asNumber_13 rfl rfl ?_
    refine V_iload_n (pc := 14) (i := 3) dX2_asNumber_14 rfl rfl ?_
    obtain ⟨g2, e⟩ := gd_some e
    obtain ⟨g3, e⟩ := gd_some e
    refine V_iald (pc := 15) dX2_asNumber_15 (of_decide_eq_true g2) (ix_in g3) ?_
    refine V_iconst (pc := 16) (v := (3 : Int32)) dX2_asNumber_16 (by decide) ?_
    refine V_iload_n (pc := 17) (i := 3) dX2_asNumber_17 rfl rfl ?_
    refine V_imul (pc := 18) dX2_asNumber_18 ?_
    refine V_ishl (pc := 19) dX2_asNumber_19 ?_
    refine V_iadd (pc := 20) dX2_asNumber_20 ?_
    refine V_istore_n (pc := 21) (i := 2) (lv' := [(2, .int (v2 + ((zI h v1 (v3).toNatClampNeg) <<< (((3 : Int32) * v3) &&& 31)))), (0, .ref v0), (1, .ref v1), (3, .int v3)]) dX2_asNumber_21 rfl (by decide) rfl ?_
    refine V_iinc (pc := 22) (i := 3) (u := v3 + (1 : Int32)) (lv' := [(3, .int (v3 + (1 : Int32))), (2, .int (v2 + ((zI h v1 (v3).toNatClampNeg) <<< (((3 : Int32) * v3) &&& 31)))), (0, .ref v0), (1, .ref v1)]) dX2_asNumber_22 rfl rfl (by decide) rfl ?_
    refine V_goto (pc := 25) (tgt := 4) dX2_asNumber_25 (by decide) ?_
    cases e
    exact V_pick [2, 3, 1, 0] rfl (kI (v2 + ((zI h v1 (v3).toNatClampNeg) <<< (((3 : Int32) * v3) &&& 31)), v3 + (1 : Int32)) rfl)
set_option maxRecDepth 100000 in
def F_X2_asNumber_b0 (v0 : Nat) (v1 : Nat) (h : Hp) : Option Int32 :=
  ob (iter (fun z : Int32 × Int32 => F_X2_asNumber_l4 v0 v1 z.1 z.2 h) FU ((0 : Int32), (0 : Int32))) (fun w5 => some w5)
set_option maxHeartbeats 4000000 in
set_option maxRecDepth 100000 in
theorem r_X2_asNumber_b0 (v0 : Nat) (v1 : Nat) (h : Hp) {x : Cx} {r : Int32} (e : F_X2_asNumber_b0 v0 v1 h = some r) (hF : Fin9 M_X2_asNumber x (some .int) (some (.int r)) h) : V M_X2_asNumber x 0 0 [(0, .ref v0), (1, .ref v1)] [] h 0 0 := by
  unfold F_X2_asNumber_b0 at e
  refine V_iconst (pc := 0) (v := (0 : Int32)) dX2_asNumber_0 (by decide) ?_
  refine V_istore_n (pc := 1) (i := 2) (lv' := [(2, .int (0 : Int32)), (0, .ref v0), (1, .ref v1)]) dX2_asNumber_1 rfl (by decide) rfl ?_
  refine V_iconst (pc := 2) (v := (0 : Int32)) dX2_asNumber_2 (by decide) ?_
  refine V_istore_n (pc := 3) (i := 3) (lv' := [(3, .int (0 : Int32)), (2, .int (0 : Int32)), (0, .ref v0), (1, .ref v1)]) dX2_asNumber_3 rfl (by decide) rfl ?_
  refine V_pick [2, 3, 1, 0] rfl ?_
  obtain ⟨y6, g7, e⟩ := ob_some e
  refine iter_V (P := fun z : Int32 × Int32 => V M_X2_asNumber x 0 4 [(0, .ref v0), (1, .ref v1), (2, .int z.1), (3, .int z.2)] [] h 0 0) (E := fun z : Int32 => V M_X2_asNumber x 0 28 [(2, .int z)] [] h 0 0) (fun z o e9 k1 k2 => r_X2_asNumber_l4 v0 v1 z.1 z.2 h e9 (fun z hz9 => k1 z hz9) (fun z hz9 => k2 _ hz9)) _ _ _ g7 ?_
  clear g7
  obtain ⟨w5, rfl⟩ : ∃ q, q = y6 := ⟨_, rfl⟩
  replace e : (some w5) = some r := e
  show V M_X2_asNumber x 0 28 [(2, .int w5)] [] h 0 0
  refine V_iload_n (pc := 28) (i := 2) dX2_asNumber_28 rfl rfl ?_
  cases e
  exact V_iret (pc := 29) dX2_asNumber_29 hF
def F_X2_asNumber (v0 : Nat) (v1 : Nat) (h : Hp) : Option Int32 := F_X2_asNumber_b0 v0 v1 h
theorem c_X2_asNumber {l : Launch} (v0 : Nat) (v1 : Nat) (h : Hp) {r : Int32} (e : F_X2_asNumber v0 v1 h = some r) : Ct l yX2_asNumber M_X2_asNumber (some .int) 0 [.ref v0, .ref v1] h 0 0 (some (.int r)) h :=
  Ct_of rfl rfl (fun q => by cases q) (Nat.le_of_ble_eq_true rfl) (fun x _ hF => V_pick [0, 1] rfl (r_X2_asNumber_b0 v0 v1 h e hF))
theorem dX2_headsOf_0 : decode cX2_headsOf 0 = .ok (.iconst 0, 1) := by decide +kernel
theorem dX2_headsOf_1 : decode cX2_headsOf 1 = .ok (.istore_n 3, 1) := by decide +kernel
theorem dX2_headsOf_2 : decode cX2_headsOf 2 = .ok (.iconst 0, 1) := by decide +kernel
theorem dX2_headsOf_3 : decode cX2_headsOf 3 = .ok (.istore 4, 2) := by decide +kernel
theorem dX2_headsOf_5 : decode cX2_headsOf 5 = .ok (.iload 4, 2) := by decide +kernel
theorem dX2_headsOf_7 : decode cX2_headsOf 7 = .ok (.aload_n 0, 1) := by decide +kernel
theorem dX2_headsOf_8 : decode cX2_headsOf 8 = .ok (.getfield 28, 3) := by decide +kernel
theorem dX2_headsOf_11 : decode cX2_headsOf 11 = .ok (.if_icmp .ge 25, 3) := by decide +kernel
theorem dX2_headsOf_14 : decode cX2_headsOf 14 = .ok (.iload_n 1, 1) := by decide +kernel
theorem dX2_headsOf_15 : decode cX2_headsOf 15 = .ok (.iconst 3, 1) := by decide +kernel
theorem dX2_headsOf_16 : decode cX2_headsOf 16 = .ok (.iload 4, 2) := by decide +kernel
theorem dX2_headsOf_18 : decode cX2_headsOf 18 = .ok (.imul, 1) := by decide +kernel
theorem dX2_headsOf_19 : decode cX2_headsOf 19 = .ok (.ishr, 1) := by decide +kernel
theorem dX2_headsOf_20 : decode cX2_headsOf 20 = .ok (.bipush 7, 2) := by decide +kernel
theorem dX2_headsOf_22 : decode cX2_headsOf 22 = .ok (.iand, 1) := by decide +kernel
theorem dX2_headsOf_23 : decode cX2_headsOf 23 = .ok (.iload_n 2, 1) := by decide +kernel
theorem dX2_headsOf_24 : decode cX2_headsOf 24 = .ok (.if_icmp .ne 6, 3) := by decide +kernel
theorem dX2_headsOf_27 : decode cX2_headsOf 27 = .ok (.iinc 3 1, 3) := by decide +kernel
theorem dX2_headsOf_30 : decode cX2_headsOf 30 = .ok (.iinc 4 1, 3) := by decide +kernel
theorem dX2_headsOf_33 : decode cX2_headsOf 33 = .ok (.goto (-28), 3) := by decide +kernel
theorem dX2_headsOf_36 : decode cX2_headsOf 36 = .ok (.iload_n 3, 1) := by decide +kernel
theorem dX2_headsOf_37 : decode cX2_headsOf 37 = .ok (.ireturn, 1) := by decide +kernel
set_option maxRecDepth 100000 in
def F_X2_headsOf_b30 (v0 : Nat) (v1 : Int32) (v2 : Int32) (v3 : Int32) (v4 : Int32) (h : Hp) : Option ((Int32 × Int32) ⊕ Int32) :=
  some (.inl (v3, v4 + (1 : Int32)))
set_option maxHeartbeats 4000000 in
set_option maxRecDepth 100000 in
theorem r_X2_headsOf_b30 (v0 : Nat) (v1 : Int32) (v2 : Int32) (v3 : Int32) (v4 : Int32) (h : Hp) {x : Cx} {o : ((Int32 × Int32) ⊕ Int32)} (e : F_X2_headsOf_b30 v0 v1 v2 v3 v4 h = some o) (kI : ∀ z, o = .inl z → V M_X2_headsOf x 0 5 [(0, .ref v0), (1, .int v1), (2, .int v2), (3, .int z.1), (4, .int z.2)] [] h 0 0) (kE36 : ∀ z : Int32, o = .inr z → V M_X2_headsOf x 0 36 [(3, .int z)] [] h 0 0) : V M_X2_headsOf x 0 30 [(0, .ref v0), (1, .int v1), (2, .int v2), (3, .int v3), (4, .int v4)] [] h 0 0 := by
  unfold F_X2_headsOf_b30 at e
  refine V_iinc (pc := 30) (i := 4) (u := v4 + (1 : Int32)) (lv' := [(4, .int (v4 + (1 : Int32))), (0, .ref v0), (1, .int v1), (2, .int v2), (3, .int v3)]) dX2_headsOf_30 rfl rfl (by decide) rfl ?_
  refine V_goto (pc := 33) (tgt := 5) dX2_headsOf_33 (by decide) ?_
  cases e
  exact V_pick [1, 2, 3, 4, 0] rfl (kI (v3, v4 + (1 : Int32)) rfl)
set_option maxRecDepth 100000 in
def F_X2_headsOf_l5 (v0 : Nat) (v1 : Int32) (v2 : Int32) (v3 : Int32) (v4 : Int32) (h : Hp) : Option ((Int32 × Int32) ⊕ Int32) :=
  gd (decide (kd h v0 = 2)) <| (if (zI h v0 5) ≤ v4 then some (.inr v3) else (if ((v1 >>> (((3 : Int32) * v4) &&& 31)) &&& (7 : Int32)) = v2 then F_X2_headsOf_b30 v0 v1 v2 (v3 + (1 : Int32)) v4 h else F_X2_headsOf_b30 v0 v1 v2 v3 v4 h))
set_option maxHeartbeats 4000000 in
set_option maxRecDepth 100000 in
theorem r_X2_headsOf_l5 (v0 : Nat) (v1 : Int32) (v2 : Int32) (v3 : Int32) (v4 : Int32) (h : Hp) {x : Cx} {o : ((Int32 × Int32) ⊕ Int32)} (e : F_X2_headsOf_l5 v0 v1 v2 v3 v4 h = some o) (kI : ∀ z, o = .inl z → V M_X2_headsOf x 0 5 [(0, .ref v0), (1, .int v1), (2, .int v2), (3, .int z.1), (4, .int z.2)] [] h 0 0) (kE36 : ∀ z : Int32, o = .inr z → V M_X2_headsOf x 0 36 [(3, .int z)] [] h 0 0) : V M_X2_headsOf x 0 5 [(0, .ref v0), (1, .int v1), (2, .int v2), (3, .int v3), (4, .int v4)] [] h 0 0 := by
  unfold F_X2_headsOf_l5 at e
  refine V_iload (pc := 5) (i := 4) dX2_headsOf_5 rfl ?_
  refine V_aload_n (pc := 7) (i := 0) dX2_headsOf_7 rfl rfl ?_
  obtain ⟨g1, e⟩ := gd_some e
  refine V_getI (pc := 8) (ci := 2) (k := 5) dX2_headsOf_8 fl_X2_28 rfl (of_decide_eq_true g1) ?_
  refine V_icmp_ge (pc := 11) (tgt := 36) dX2_headsOf_11 (by decide) (fun c3 => ?_) (fun c3 => ?_)
  · rw [if_pos c3] at e
    cases e
    exact V_pick [3] rfl (kE36 v3 rfl)
  · rw [if_neg c3] at e
    refine V_pick [0, 1, 2, 3, 4] rfl ?_
    refine V_iload_n (pc := 14) (i := 1) dX2_headsOf_14 rfl rfl ?_
    refine V_iconst (pc := 15) (v := (3 : Int32)) dX2_headsOf_15 (by decide) ?_
    refine V_iload (pc := 16) (i := 4) dX2_headsOf_16 rfl ?_
    refine V_imul (pc := 18) dX2_headsOf_18 ?_
    refine V_ishr (pc := 19) dX2_headsOf_19 ?_
    refine V_bipush (pc := 20) (v := (7 : Int32)) dX2_headsOf_20 (by decide) ?_
    refine V_iand (pc := 22) dX2_headsOf_22 ?_
    refine V_iload_n (pc := 23) (i := 2) dX2_headsOf_23 rfl rfl ?_
    refine V_icmp_ne (pc := 24) (tgt := 30) dX2_headsOf_24 (by decide) (fun c2 => ?_) (fun c2 => ?_)
    · rw [if_neg c2] at e
      exact V_pick [0, 1, 2, 3, 4] rfl (r_X2_headsOf_b30 v0 v1 v2 v3 v4 h e kI kE36)
    · rw [if_pos c2] at e
      refine V_pick [0, 1, 2, 3, 4] rfl ?_
      refine V_iinc (pc := 27) (i := 3) (u := v3 + (1 : Int32)) (lv' := [(3, .int (v3 + (1 : Int32))), (0, .ref v0), (1, .int v1), (2, .int v2), (4, .int v4)]) dX2_headsOf_27 rfl rfl (by decide) rfl ?_
      exact V_pick [1, 2, 3, 0, 4] rfl (r_X2_headsOf_b30 v0 v1 v2 (v3 + (1 : Int32)) v4 h e kI kE36)
set_option maxRecDepth 100000 in
def F_X2_headsOf_b0 (v0 : Nat) (v1 : Int32) (v2 : Int32) (h : Hp) : Option Int32 :=
  ob (iter (fun z : Int32 × Int32 => F_X2_headsOf_l5 v0 v1 v2 z.1 z.2 h) FU ((0 : Int32), (0 : Int32))) (fun w4 => some w4)
set_option maxHeartbeats 4000000 in
set_option maxRecDepth 100000 in
theorem r_X2_headsOf_b0 (v0 : Nat) (v1 : Int32) (v2 : Int32) (h : Hp) {x : Cx} {r : Int32} (e : F_X2_headsOf_b0 v0 v1 v2 h = some r) (hF : Fin9 M_X2_headsOf x (some .int) (some (.int r)) h) : V M_X2_headsOf x 0 0 [(0, .ref v0), (1, .int v1), (2, .int v2)] [] h 0 0 := by
  unfold F_X2_headsOf_b0 at e
  refine V_iconst (pc := 0) (v := (0 : Int32)) dX2_headsOf_0 (by decide) ?_
  refine V_istore_n (pc := 1) (i := 3) (lv' := [(3, .int (0 : Int32)), (0, .ref v0), (1, .int v1), (2, .int v2)]) dX2_headsOf_1 rfl (by decide) rfl ?_
  refine V_iconst (pc := 2) (v := (0 : Int32)) dX2_headsOf_2 (by decide) ?_
  refine V_istore (pc := 3) (i := 4) (lv' := [(4, .int (0 : Int32)), (3, .int (0 : Int32)), (0, .ref v0), (1, .int v1), (2, .int v2)]) dX2_headsOf_3 (by decide) rfl ?_
  refine V_pick [2, 3, 4, 1, 0] rfl ?_
  obtain ⟨y5, g6, e⟩ := ob_some e
  refine iter_V (P := fun z : Int32 × Int32 => V M_X2_headsOf x 0 5 [(0, .ref v0), (1, .int v1), (2, .int v2), (3, .int z.1), (4, .int z.2)] [] h 0 0) (E := fun z : Int32 => V M_X2_headsOf x 0 36 [(3, .int z)] [] h 0 0) (fun z o e9 k1 k2 => r_X2_headsOf_l5 v0 v1 v2 z.1 z.2 h e9 (fun z hz9 => k1 z hz9) (fun z hz9 => k2 _ hz9)) _ _ _ g6 ?_
  clear g6
  obtain ⟨w4, rfl⟩ : ∃ q, q = y5 := ⟨_, rfl⟩
  replace e : (some w4) = some r := e
  show V M_X2_headsOf x 0 36 [(3, .int w4)] [] h 0 0
  refine V_iload_n (pc := 36) (i := 3) dX2_headsOf_36 rfl rfl ?_
  cases e
  exact V_iret (pc := 37) dX2_headsOf_37 hF
def F_X2_headsOf (v0 : Nat) (v1 : Int32) (v2 : Int32) (h : Hp) : Option Int32 := F_X2_headsOf_b0 v0 v1 v2 h
theorem c_X2_headsOf {l : Launch} (v0 : Nat) (v1 : Int32) (v2 : Int32) (h : Hp) {r : Int32} (e : F_X2_headsOf v0 v1 v2 h = some r) : Ct l yX2_headsOf M_X2_headsOf (some .int) 0 [.ref v0, .int v1, .int v2] h 0 0 (some (.int r)) h :=
  Ct_of rfl rfl (fun q => by cases q) (Nat.le_of_ble_eq_true rfl) (fun x _ hF => V_pick [0, 1, 2] rfl (r_X2_headsOf_b0 v0 v1 v2 h e hF))
theorem dX2_notAt_0 : decode cX2_notAt 0 = .ok (.iconst 0, 1) := by decide +kernel
theorem dX2_notAt_1 : decode cX2_notAt 1 = .ok (.istore_n 2, 1) := by decide +kernel
theorem dX2_notAt_2 : decode cX2_notAt 2 = .ok (.iconst 0, 1) := by decide +kernel
theorem dX2_notAt_3 : decode cX2_notAt 3 = .ok (.istore_n 3, 1) := by decide +kernel
theorem dX2_notAt_4 : decode cX2_notAt 4 = .ok (.iload_n 3, 1) := by decide +kernel
theorem dX2_notAt_5 : decode cX2_notAt 5 = .ok (.aload_n 0, 1) := by decide +kernel
theorem dX2_notAt_6 : decode cX2_notAt 6 = .ok (.getfield 28, 3) := by decide +kernel
theorem dX2_notAt_9 : decode cX2_notAt 9 = .ok (.if_icmp .ge 24, 3) := by decide +kernel
theorem dX2_notAt_12 : decode cX2_notAt 12 = .ok (.aload_n 1, 1) := by decide +kernel
theorem dX2_notAt_13 : decode cX2_notAt 13 = .ok (.iload_n 3, 1) := by decide +kernel
theorem dX2_notAt_14 : decode cX2_notAt 14 = .ok (.iaload, 1) := by decide +kernel
theorem dX2_notAt_15 : decode cX2_notAt 15 = .ok (.aload_n 0, 1) := by decide +kernel
theorem dX2_notAt_16 : decode cX2_notAt 16 = .ok (.getfield 34, 3) := by decide +kernel
theorem dX2_notAt_19 : decode cX2_notAt 19 = .ok (.iload_n 3, 1) := by decide +kernel
theorem dX2_notAt_20 : decode cX2_notAt 20 = .ok (.iaload, 1) := by decide +kernel
theorem dX2_notAt_21 : decode cX2_notAt 21 = .ok (.if_icmp .eq 6, 3) := by decide +kernel
theorem dX2_notAt_24 : decode cX2_notAt 24 = .ok (.iinc 2 1, 3) := by decide +kernel
theorem dX2_notAt_27 : decode cX2_notAt 27 = .ok (.iinc 3 1, 3) := by decide +kernel
theorem dX2_notAt_30 : decode cX2_notAt 30 = .ok (.goto (-26), 3) := by decide +kernel
theorem dX2_notAt_33 : decode cX2_notAt 33 = .ok (.iload_n 2, 1) := by decide +kernel
theorem dX2_notAt_34 : decode cX2_notAt 34 = .ok (.ireturn, 1) := by decide +kernel
set_option maxRecDepth 100000 in
def F_X2_notAt_b27 (v0 : Nat) (v1 : Nat) (v2 : Int32) (v3 : Int32) (h : Hp) : Option ((Int32 × Int32) ⊕ Int32) :=
  some (.inl (v2, v3 + (1 : Int32)))
set_option maxHeartbeats 4000000 in
set_option maxRecDepth 100000 in
theorem r_X2_notAt_b27 (v0 : Nat) (v1 : Nat) (v2 : Int32) (v3 : Int32) (h : Hp) {x : Cx} {o : ((Int32 × Int32) ⊕ Int32)} (e : F_X2_notAt_b27 v0 v1 v2 v3 h = some o) (kI : ∀ z, o = .inl z → V M_X2_notAt x 0 4 [(0, .ref v0), (1, .ref v1), (2, .int z.1), (3, .int z.2)] [] h 0 0) (kE33 : ∀ z : Int32, o = .inr z → V M_X2_notAt x 0 33 [(2, .int z)] [] h 0 0) : V M_X2_notAt x 0 27 [(0, .ref v0), (1, .ref v1), (2, .int v2), (3, .int v3)] [] h 0 0 := by
  unfold F_X2_notAt_b27 at e
  refine V_iinc (pc := 27) (i := 3) (u := v3 + (1 : Int32)) (lv' := [(3, .int (v3 + (1 : Int32))), (0, .ref v0), (1, .ref v1), (2, .int v2)]) dX2_notAt_27 rfl rfl (by decide) rfl ?_
  refine V_goto (pc := 30) (tgt := 4) dX2_notAt_30 (by decide) ?_
  cases e
  exact V_pick [1, 2, 3, 0] rfl (kI (v2, v3 + (1 : Int32)) rfl)
set_option maxRecDepth 100000 in
def F_X2_notAt_l4 (v0 : Nat) (v1 : Nat) (v2 : Int32) (v3 : Int32) (h : Hp) : Option ((Int32 × Int32) ⊕ Int32) :=
  gd (decide (kd h v0 = 2)) <| (if (zI h v0 5) ≤ v3 then some (.inr v2) else gd (decide (kd h v1 = 13)) <| gd (ix v3 (zl h v1)) <| ob (zR h v0 7) fun q4 => gd (decide (kd h q4 = 13)) <| gd (ix v3 (zl h q4)) <| (if (zI h v1 (v3).toNatClampNeg) = (zI h q4 (v3).toNatClampNeg) then F_X2_notAt_b27 v0 v1 v2 v3 h else F_X2_notAt_b27 v0 v1 (v2 + (1 : Int32)) v3 h))
set_option maxHeartbeats 4000000 in
set_option maxRecDepth 100000 in
theorem r_X2_notAt_l4 (v0 : Nat) (v1 : Nat) (v2 : Int32) (v3 : Int32) (h : Hp) {x : Cx} {o : ((Int32 × Int32) ⊕ Int32)} (e : F_X2_notAt_l4 v0 v1 v2 v3 h = some o) (kI : ∀ z, o = .inl z → V M_X2_notAt x 0 4 [(0, .ref v0), (1, .ref v1), (2, .int z.1), (3, .int z.2)] [] h 0 0) (kE33 : ∀ z : Int32, o = .inr z → V M_X2_notAt x 0 33 [(2, .int z)] [] h 0 0) : V M_X2_notAt x 0 4 [(0, .ref v0), (1, .ref v1), (2, .int v2), (3, .int v3)] [] h 0 0 := by
  unfold F_X2_notAt_l4 at e
  refine V_iload_n (pc := 4) (i := 3) dX2_notAt_4 rfl rfl ?_
  refine V_aload_n (pc := 5) (i := 0) dX2_notAt_5 rfl rfl ?_
  obtain ⟨g1, e⟩ := gd_some e
  refine V_getI (pc := 6) (ci := 2) (k := 5) dX2_notAt_6 fl_X2_28 rfl (of_decide_eq_true g1) ?_
  refine V_icmp_ge (pc := 9) (tgt := 33) dX2_notAt_9 (by decide) (fun c9 => ?_) (fun c9 => ?_)
  · rw [if_pos c9] at e
    cases e
    exact V_pick [2] rfl (kE33 v2 rfl)
  · rw [if_neg c9] at e
    refine V_pick [0, 1, 2, 3] rfl ?_
    refine V_aload_n (pc := 12) (i := 1) dX2_notAt_12 rfl rfl ?_
    refine V_iload_n (pc := 13) (i := 3) dX2_notAt_13 rfl rfl ?_
    obtain ⟨g2, e⟩ := gd_some e
    obtain ⟨g3, e⟩ := gd_some e
    refine V_iald (pc := 14) dX2_notAt_14 (of_decide_eq_true g2) (ix_in g3) ?_
    refine V_aload_n (pc := 15) (i := 0) dX2_notAt_15 rfl rfl ?_
    obtain ⟨q4, g5, e⟩ := ob_some e
    refine V_getR (pc := 16) (ci := 2) (k := 7) (b := q4) dX2_notAt_16 fl_X2_34 rfl (of_decide_eq_true g1) g5 ?_
    refine V_iload_n (pc := 19) (i := 3) dX2_notAt_19 rfl rfl ?_
    obtain ⟨g6, e⟩ := gd_some e
    obtain ⟨g7, e⟩ := gd_some e
    refine V_iald (pc := 20) dX2_notAt_20 (of_decide_eq_true g6) (ix_in g7) ?_
    refine V_icmp_eq (pc := 21) (tgt := 27) dX2_notAt_21 (by decide) (fun c8 => ?_) (fun c8 => ?_)
    · rw [if_pos c8] at e
      exact V_pick [0, 1, 2, 3] rfl (r_X2_notAt_b27 v0 v1 v2 v3 h e kI kE33)
    · rw [if_neg c8] at e
      refine V_pick [0, 1, 2, 3] rfl ?_
      refine V_iinc (pc := 24) (i := 2) (u := v2 + (1 : Int32)) (lv' := [(2, .int (v2 + (1 : Int32))), (0, .ref v0), (1, .ref v1), (3, .int v3)]) dX2_notAt_24 rfl rfl (by decide) rfl ?_
      exact V_pick [1, 2, 0, 3] rfl (r_X2_notAt_b27 v0 v1 (v2 + (1 : Int32)) v3 h e kI kE33)
set_option maxRecDepth 100000 in
def F_X2_notAt_b0 (v0 : Nat) (v1 : Nat) (h : Hp) : Option Int32 :=
  ob (iter (fun z : Int32 × Int32 => F_X2_notAt_l4 v0 v1 z.1 z.2 h) FU ((0 : Int32), (0 : Int32))) (fun w10 => some w10)
set_option maxHeartbeats 4000000 in
set_option maxRecDepth 100000 in
theorem r_X2_notAt_b0 (v0 : Nat) (v1 : Nat) (h : Hp) {x : Cx} {r : Int32} (e : F_X2_notAt_b0 v0 v1 h = some r) (hF : Fin9 M_X2_notAt x (some .int) (some (.int r)) h) : V M_X2_notAt x 0 0 [(0, .ref v0), (1, .ref v1)] [] h 0 0 := by
  unfold F_X2_notAt_b0 at e
  refine V_iconst (pc := 0) (v := (0 : Int32)) dX2_notAt_0 (by decide) ?_
  refine V_istore_n (pc := 1) (i := 2) (lv' := [(2, .int (0 : Int32)), (0, .ref v0), (1, .ref v1)]) dX2_notAt_1 rfl (by decide) rfl ?_
  refine V_iconst (pc := 2) (v := (0 : Int32)) dX2_notAt_2 (by decide) ?_
  refine V_istore_n (pc := 3) (i := 3) (lv' := [(3, .int (0 : Int32)), (2, .int (0 : Int32)), (0, .ref v0), (1, .ref v1)]) dX2_notAt_3 rfl (by decide) rfl ?_
  refine V_pick [2, 3, 1, 0] rfl ?_
  obtain ⟨y11, g12, e⟩ := ob_some e
  refine iter_V (P := fun z : Int32 × Int32 => V M_X2_notAt x 0 4 [(0, .ref v0), (1, .ref v1), (2, .int z.1), (3, .int z.2)] [] h 0 0) (E := fun z : Int32 => V M_X2_notAt x 0 33 [(2, .int z)] [] h 0 0) (fun z o e9 k1 k2 => r_X2_notAt_l4 v0 v1 z.1 z.2 h e9 (fun z hz9 => k1 z hz9) (fun z hz9 => k2 _ hz9)) _ _ _ g12 ?_
  clear g12
  obtain ⟨w10, rfl⟩ : ∃ q, q = y11 := ⟨_, rfl⟩
  replace e : (some w10) = some r := e
  show V M_X2_notAt x 0 33 [(2, .int w10)] [] h 0 0
  refine V_iload_n (pc := 33) (i := 2) dX2_notAt_33 rfl rfl ?_
  cases e
  exact V_iret (pc := 34) dX2_notAt_34 hF
def F_X2_notAt (v0 : Nat) (v1 : Nat) (h : Hp) : Option Int32 := F_X2_notAt_b0 v0 v1 h
theorem c_X2_notAt {l : Launch} (v0 : Nat) (v1 : Nat) (h : Hp) {r : Int32} (e : F_X2_notAt v0 v1 h = some r) : Ct l yX2_notAt M_X2_notAt (some .int) 0 [.ref v0, .ref v1] h 0 0 (some (.int r)) h :=
  Ct_of rfl rfl (fun q => by cases q) (Nat.le_of_ble_eq_true rfl) (fun x _ hF => V_pick [0, 1] rfl (r_X2_notAt_b0 v0 v1 h e hF))
theorem dX2_isOneStep_0 : decode cX2_isOneStep 0 = .ok (.aload_n 0, 1) := by decide +kernel
theorem dX2_isOneStep_1 : decode cX2_isOneStep 1 = .ok (.getfield 15, 3) := by decide +kernel
theorem dX2_isOneStep_4 : decode cX2_isOneStep 4 = .ok (.iload_n 1, 1) := by decide +kernel
theorem dX2_isOneStep_5 : decode cX2_isOneStep 5 = .ok (.iaload, 1) := by decide +kernel
theorem dX2_isOneStep_6 : decode cX2_isOneStep 6 = .ok (.aload_n 0, 1) := by decide +kernel
theorem dX2_isOneStep_7 : decode cX2_isOneStep 7 = .ok (.getfield 15, 3) := by decide +kernel
theorem dX2_isOneStep_10 : decode cX2_isOneStep 10 = .ok (.iload_n 2, 1) := by decide +kernel
theorem dX2_isOneStep_11 : decode cX2_isOneStep 11 = .ok (.iaload, 1) := by decide +kernel
theorem dX2_isOneStep_12 : decode cX2_isOneStep 12 = .ok (.isub, 1) := by decide +kernel
theorem dX2_isOneStep_13 : decode cX2_isOneStep 13 = .ok (.invokestatic 107, 3) := by decide +kernel
theorem dX2_isOneStep_16 : decode cX2_isOneStep 16 = .ok (.aload_n 0, 1) := by decide +kernel
theorem dX2_isOneStep_17 : decode cX2_isOneStep 17 = .ok (.getfield 19, 3) := by decide +kernel
theorem dX2_isOneStep_20 : decode cX2_isOneStep 20 = .ok (.iload_n 1, 1) := by decide +kernel
theorem dX2_isOneStep_21 : decode cX2_isOneStep 21 = .ok (.iaload, 1) := by decide +kernel
theorem dX2_isOneStep_22 : decode cX2_isOneStep 22 = .ok (.aload_n 0, 1) := by decide +kernel
theorem dX2_isOneStep_23 : decode cX2_isOneStep 23 = .ok (.getfield 19, 3) := by decide +kernel
theorem dX2_isOneStep_26 : decode cX2_isOneStep 26 = .ok (.iload_n 2, 1) := by decide +kernel
theorem dX2_isOneStep_27 : decode cX2_isOneStep 27 = .ok (.iaload, 1) := by decide +kernel
theorem dX2_isOneStep_28 : decode cX2_isOneStep 28 = .ok (.isub, 1) := by decide +kernel
theorem dX2_isOneStep_29 : decode cX2_isOneStep 29 = .ok (.invokestatic 107, 3) := by decide +kernel
theorem dX2_isOneStep_32 : decode cX2_isOneStep 32 = .ok (.iadd, 1) := by decide +kernel
theorem dX2_isOneStep_33 : decode cX2_isOneStep 33 = .ok (.iconst 1, 1) := by decide +kernel
theorem dX2_isOneStep_34 : decode cX2_isOneStep 34 = .ok (.if_icmp .ne 7, 3) := by decide +kernel
theorem dX2_isOneStep_37 : decode cX2_isOneStep 37 = .ok (.iconst 1, 1) := by decide +kernel
theorem dX2_isOneStep_38 : decode cX2_isOneStep 38 = .ok (.goto 4, 3) := by decide +kernel
theorem dX2_isOneStep_41 : decode cX2_isOneStep 41 = .ok (.iconst 0, 1) := by decide +kernel
theorem dX2_isOneStep_42 : decode cX2_isOneStep 42 = .ok (.ireturn, 1) := by decide +kernel
set_option maxRecDepth 100000 in
def F_X2_isOneStep_b42 (t0 : Int32) (h : Hp) : Option Int32 :=
  gd (decide (t0 = 0 ∨ t0 = 1)) <| some t0
set_option maxHeartbeats 4000000 in
set_option maxRecDepth 100000 in
theorem r_X2_isOneStep_b42 (t0 : Int32) (h : Hp) {x : Cx} {r : Int32} (e : F_X2_isOneStep_b42 t0 h = some r) (hF : Fin9 M_X2_isOneStep x (some .boolean) (some (.int r)) h) : V M_X2_isOneStep x 1 42 [] [.int t0] h 0 0 := by
  unfold F_X2_isOneStep_b42 at e
  obtain ⟨g18, e⟩ := gd_some e
  cases e
  exact V_zret (pc := 42) dX2_isOneStep_42 (z01 (of_decide_eq_true g18)) hF
set_option maxRecDepth 100000 in
def F_X2_isOneStep_b0 (v0 : Nat) (v1 : Int32) (v2 : Int32) (h : Hp) : Option Int32 :=
  gd (decide (kd h v0 = 2)) <| ob (zR h v0 1) fun q2 => gd (decide (kd h q2 = 13)) <| gd (ix v1 (zl h q2)) <| ob (zR h v0 1) fun q6 => gd (decide (kd h q6 = 13)) <| gd (ix v2 (zl h q6)) <| ob (zR h v0 2) fun q10 => gd (decide (kd h q10 = 13)) <| gd (ix v1 (zl h q10)) <| ob (zR h v0 2) fun q14 => gd (decide (kd h q14 = 13)) <| gd (ix v2 (zl h q14)) <| (if ((jabs ((zI h q2 (v1).toNatClampNeg) - (zI h q6 (v2).toNatClampNeg))) + (jabs ((zI h q10 (v1).toNatClampNeg) - (zI h q14 (v2).toNatClampNeg)))) = (1 : Int32) then F_X2_isOneStep_b42 (1 : Int32) h else F_X2_isOneStep_b42 (0 : Int32) h)
set_option maxHeartbeats 4000000 in
set_option maxRecDepth 100000 in
theorem r_X2_isOneStep_b0 (v0 : Nat) (v1 : Int32) (v2 : Int32) (h : Hp) {x : Cx} {r : Int32} (e : F_X2_isOneStep_b0 v0 v1 v2 h = some r) (hF : Fin9 M_X2_isOneStep x (some .boolean) (some (.int r)) h) : V M_X2_isOneStep x 1 0 [(0, .ref v0), (1, .int v1), (2, .int v2)] [] h 0 0 := by
  unfold F_X2_isOneStep_b0 at e
  refine V_aload_n (pc := 0) (i := 0) dX2_isOneStep_0 rfl rfl ?_
  obtain ⟨g1, e⟩ := gd_some e
  obtain ⟨q2, g3, e⟩ := ob_some e
  refine V_getR (pc := 1) (ci := 2) (k := 1) (b := q2) dX2_isOneStep_1 fl_X2_15 rfl (of_decide_eq_true g1) g3 ?_
  refine V_iload_n (pc := 4) (i := 1) dX2_isOneStep_4 rfl rfl ?_
  obtain ⟨g4, e⟩ := gd_some e
  obtain ⟨g5, e⟩ := gd_some e
  refine V_iald (pc := 5) dX2_isOneStep_5 (of_decide_eq_true g4) (ix_in g5) ?_
  refine V_aload_n (pc := 6) (i := 0) dX2_isOneStep_6 rfl rfl ?_
  obtain ⟨q6, g7, e⟩ := ob_some e
  refine V_getR (pc := 7) (ci := 2) (k := 1) (b := q6) dX2_isOneStep_7 fl_X2_15 rfl (of_decide_eq_true g1) g7 ?_
  refine V_iload_n (pc := 10) (i := 2) dX2_isOneStep_10 rfl rfl ?_
  obtain ⟨g8, e⟩ := gd_some e
  obtain ⟨g9, e⟩ := gd_some e
  refine V_iald (pc := 11) dX2_isOneStep_11 (of_decide_eq_true g8) (ix_in g9) ?_
  refine V_isub (pc := 12) dX2_isOneStep_12 ?_
  refine V_abs (pc := 13) dX2_isOneStep_13 wm_X2_107 (by decide) (Nat.le_of_ble_eq_true rfl) ?_
  refine V_aload_n (pc := 16) (i := 0) dX2_isOneStep_16 rfl rfl ?_
  obtain ⟨q10, g11, e⟩ := ob_some e
  refine V_getR (pc := 17) (ci := 2) (k := 2) (b := q10) dX2_isOneStep_17 fl_X2_19 rfl (of_decide_eq_true g1) g11 ?_
  refine V_iload_n (pc := 20) (i := 1) dX2_isOneStep_20 rfl rfl ?_
  obtain ⟨g12, e⟩ := gd_some e
  obtain ⟨g13, e⟩ := gd_some e
  refine V_iald (pc := 21) dX2_isOneStep_21 (of_decide_eq_true g12) (ix_in g13) ?_
  refine V_aload_n (pc := 22) (i := 0) dX2_isOneStep_22 rfl rfl ?_
  obtain ⟨q14, g15, e⟩ := ob_some e
  refine V_getR (pc := 23) (ci := 2) (k := 2) (b := q14) dX2_isOneStep_23 fl_X2_19 rfl (of_decide_eq_true g1) g15 ?_
  refine V_iload_n (pc := 26) (i := 2) dX2_isOneStep_26 rfl rfl ?_
  obtain ⟨g16, e⟩ := gd_some e
  obtain ⟨g17, e⟩ := gd_some e
  refine V_iald (pc := 27) dX2_isOneStep_27 (of_decide_eq_true g16) (ix_in g17) ?_
  refine V_isub (pc := 28) dX2_isOneStep_28 ?_
  refine V_abs (pc := 29) dX2_isOneStep_29 wm_X2_107 (by decide) (Nat.le_of_ble_eq_true rfl) ?_
  refine V_iadd (pc := 32) dX2_isOneStep_32 ?_
  refine V_iconst (pc := 33) (v := (1 : Int32)) dX2_isOneStep_33 (by decide) ?_
  refine V_icmp_ne (pc := 34) (tgt := 41) dX2_isOneStep_34 (by decide) (fun c19 => ?_) (fun c19 => ?_)
  · rw [if_neg c19] at e
    refine V_pick [] rfl ?_
    refine V_iconst (pc := 41) (v := (0 : Int32)) dX2_isOneStep_41 (by decide) ?_
    exact V_pick [] rfl (r_X2_isOneStep_b42 (0 : Int32) h e hF)
  · rw [if_pos c19] at e
    refine V_pick [] rfl ?_
    refine V_iconst (pc := 37) (v := (1 : Int32)) dX2_isOneStep_37 (by decide) ?_
    refine V_goto (pc := 38) (tgt := 42) dX2_isOneStep_38 (by decide) ?_
    exact V_pick [] rfl (r_X2_isOneStep_b42 (1 : Int32) h e hF)
def F_X2_isOneStep (v0 : Nat) (v1 : Int32) (v2 : Int32) (h : Hp) : Option Int32 := F_X2_isOneStep_b0 v0 v1 v2 h
theorem c_X2_isOneStep {l : Launch} (v0 : Nat) (v1 : Int32) (v2 : Int32) (h : Hp) {r : Int32} (e : F_X2_isOneStep v0 v1 v2 h = some r) : Ct l yX2_isOneStep M_X2_isOneStep (some .boolean) 1 [.ref v0, .int v1, .int v2] h 0 0 (some (.int r)) h :=
  Ct_of rfl rfl (fun q => by cases q) (Nat.le_of_ble_eq_true rfl) (fun x _ hF => V_pick [0, 1, 2] rfl (r_X2_isOneStep_b0 v0 v1 v2 h e hF))
theorem dX3_countFrom_0 : decode cX3_countFrom 0 = .ok (.aload_n 0, 1) := by decide +kernel
theorem dX3_countFrom_1 : decode cX3_countFrom 1 = .ok (.aload_n 1, 1) := by decide +kernel
theorem dX3_countFrom_2 : decode cX3_countFrom 2 = .ok (.getfield 25, 3) := by decide +kernel
theorem dX3_countFrom_5 : decode cX3_countFrom 5 = .ok (.putfield 15, 3) := by decide +kernel
theorem dX3_countFrom_8 : decode cX3_countFrom 8 = .ok (.aload_n 0, 1) := by decide +kernel
theorem dX3_countFrom_9 : decode cX3_countFrom 9 = .ok (.aload_n 1, 1) := by decide +kernel
theorem dX3_countFrom_10 : decode cX3_countFrom 10 = .ok (.getfield 28, 3) := by decide +kernel
theorem dX3_countFrom_13 : decode cX3_countFrom 13 = .ok (.putfield 19, 3) := by decide +kernel
theorem dX3_countFrom_16 : decode cX3_countFrom 16 = .ok (.aload_n 0, 1) := by decide +kernel
theorem dX3_countFrom_17 : decode cX3_countFrom 17 = .ok (.aload_n 1, 1) := by decide +kernel
theorem dX3_countFrom_18 : decode cX3_countFrom 18 = .ok (.getfield 29, 3) := by decide +kernel
theorem dX3_countFrom_21 : decode cX3_countFrom 21 = .ok (.getfield 32, 3) := by decide +kernel
theorem dX3_countFrom_24 : decode cX3_countFrom 24 = .ok (.putfield 22, 3) := by decide +kernel
theorem dX3_countFrom_27 : decode cX3_countFrom 27 = .ok (.return_, 1) := by decide +kernel
set_option maxRecDepth 100000 in
def F_X3_countFrom_b0 (v0 : Nat) (v1 : Nat) (h : Hp) : Option (Unit × Hp) :=
  gd (decide (kd h v1 = 2)) <| gd (decide (kd h v0 = 3)) <| ob (zR (setI (setI h v0 2 (zI h v1 0)) v0 3 (zI (setI h v0 2 (zI h v1 0)) v1 5)) v1 9) fun q3 => gd (decide (kd (setI (setI h v0 2 (zI h v1 0)) v0 3 (zI (setI h v0 2 (zI h v1 0)) v1 5)) q3 = 7)) <| ob (some (setI (setI (setI h v0 2 (zI h v1 0)) v0 3 (zI (setI h v0 2 (zI h v1 0)) v1 5)) v0 4 (zI (setI (setI h v0 2 (zI h v1 0)) v0 3 (zI (setI h v0 2 (zI h v1 0)) v1 5)) q3 0))) fun h6 => some ((), h6)
set_option maxHeartbeats 4000000 in
set_option maxRecDepth 100000 in
theorem r_X3_countFrom_b0 (v0 : Nat) (v1 : Nat) (h : Hp) {x : Cx} {r : Unit} {hz : Hp} (e : F_X3_countFrom_b0 v0 v1 h = some (r, hz)) (hF : Fin9 M_X3_countFrom x none none hz) : V M_X3_countFrom x 0 0 [(0, .ref v0), (1, .ref v1)] [] h 0 0 := by
  unfold F_X3_countFrom_b0 at e
  refine V_aload_n (pc := 0) (i := 0) dX3_countFrom_0 rfl rfl ?_
  refine V_aload_n (pc := 1) (i := 1) dX3_countFrom_1 rfl rfl ?_
  obtain ⟨g1, e⟩ := gd_some e
  refine V_getI (pc := 2) (ci := 2) (k := 0) dX3_countFrom_2 fl_X3_25 rfl (of_decide_eq_true g1) ?_
  obtain ⟨g2, e⟩ := gd_some e
  refine V_putI (pc := 5) (ci := 3) (k := 2) dX3_countFrom_5 fp_X3_15 rfl (of_decide_eq_true g2) ?_
  refine V_aload_n (pc := 8) (i := 0) dX3_countFrom_8 rfl rfl ?_
  refine V_aload_n (pc := 9) (i := 1) dX3_countFrom_9 rfl rfl ?_
  refine V_getI (pc := 10) (ci := 2) (k := 5) dX3_countFrom_10 fl_X3_28 rfl (kd_sI (of_decide_eq_true g1)) ?_
  refine V_putI (pc := 13) (ci := 3) (k := 3) dX3_countFrom_13 fp_X3_19 rfl (kd_sI (of_decide_eq_true g2)) ?_
  refine V_aload_n (pc := 16) (i := 0) dX3_countFrom_16 rfl rfl ?_
  refine V_aload_n (pc := 17) (i := 1) dX3_countFrom_17 rfl rfl ?_
  obtain ⟨q3, g4, e⟩ := ob_some e
  refine V_getR (pc := 18) (ci := 2) (k := 9) (b := q3) dX3_countFrom_18 fl_X3_29 rfl (kd_sI (kd_sI (of_decide_eq_true g1))) g4 ?_
  obtain ⟨g5, e⟩ := gd_some e
  refine V_getI (pc := 21) (ci := 7) (k := 0) dX3_countFrom_21 fl_X3_32 rfl (of_decide_eq_true g5) ?_
  refine V_putI (pc := 24) (ci := 3) (k := 4) dX3_countFrom_24 fp_X3_22 rfl (kd_sI (kd_sI (of_decide_eq_true g2))) ?_
  obtain ⟨h6, g7, e⟩ := ob_some e
  refine V_hp (Option.some.inj g7) ?_
  have k8 : kd h6 v1 = 2 := kd_eq (h := (setI (setI (setI h v0 2 (zI h v1 0)) v0 3 (zI (setI h v0 2 (zI h v1 0)) v1 5)) v0 4 (zI (setI (setI h v0 2 (zI h v1 0)) v0 3 (zI (setI h v0 2 (zI h v1 0)) v1 5)) q3 0))) (Option.some.inj g7) (kd_sI (kd_sI (kd_sI (of_decide_eq_true g1))))
  have k9 : kd h6 v0 = 3 := kd_eq (h := (setI (setI (setI h v0 2 (zI h v1 0)) v0 3 (zI (setI h v0 2 (zI h v1 0)) v1 5)) v0 4 (zI (setI (setI h v0 2 (zI h v1 0)) v0 3 (zI (setI h v0 2 (zI h v1 0)) v1 5)) q3 0))) (Option.some.inj g7) (kd_sI (kd_sI (kd_sI (of_decide_eq_true g2))))
  have k10 : kd h6 q3 = 7 := kd_eq (h := (setI (setI (setI h v0 2 (zI h v1 0)) v0 3 (zI (setI h v0 2 (zI h v1 0)) v1 5)) v0 4 (zI (setI (setI h v0 2 (zI h v1 0)) v0 3 (zI (setI h v0 2 (zI h v1 0)) v1 5)) q3 0))) (Option.some.inj g7) (kd_sI (of_decide_eq_true g5))
  cases e
  exact V_vret (pc := 27) dX3_countFrom_27 hF
def F_X3_countFrom (v0 : Nat) (v1 : Nat) (h : Hp) : Option (Unit × Hp) := F_X3_countFrom_b0 v0 v1 h
theorem c_X3_countFrom {l : Launch} (v0 : Nat) (v1 : Nat) (h : Hp) {r : Unit} {hz : Hp} (e : F_X3_countFrom v0 v1 h = some (r, hz)) : Ct l yX3_countFrom M_X3_countFrom none 0 [.ref v0, .ref v1] h 0 0 none hz :=
  Ct_of rfl rfl (fun q => by cases q) (Nat.le_of_ble_eq_true rfl) (fun x _ hF => V_pick [0, 1] rfl (r_X3_countFrom_b0 v0 v1 h e hF))
theorem dX3_put_0 : decode cX3_put 0 = .ok (.aload_n 0, 1) := by decide +kernel
theorem dX3_put_1 : decode cX3_put 1 = .ok (.getfield 105, 3) := by decide +kernel
theorem dX3_put_4 : decode cX3_put 4 = .ok (.iconst 4, 1) := by decide +kernel
theorem dX3_put_5 : decode cX3_put 5 = .ok (.imul, 1) := by decide +kernel
theorem dX3_put_6 : decode cX3_put 6 = .ok (.iload_n 1, 1) := by decide +kernel
theorem dX3_put_7 : decode cX3_put 7 = .ok (.iadd, 1) := by decide +kernel
theorem dX3_put_8 : decode cX3_put 8 = .ok (.istore_n 3, 1) := by decide +kernel
theorem dX3_put_9 : decode cX3_put 9 = .ok (.iload_n 3, 1) := by decide +kernel
theorem dX3_put_10 : decode cX3_put 10 = .ok (.aload_n 0, 1) := by decide +kernel
theorem dX3_put_11 : decode cX3_put 11 = .ok (.getfield 11, 3) := by decide +kernel
theorem dX3_put_14 : decode cX3_put 14 = .ok (.arraylength, 1) := by decide +kernel
theorem dX3_put_15 : decode cX3_put 15 = .ok (.if_icmp .ge 10, 3) := by decide +kernel
theorem dX3_put_18 : decode cX3_put 18 = .ok (.aload_n 0, 1) := by decide +kernel
theorem dX3_put_19 : decode cX3_put 19 = .ok (.getfield 11, 3) := by decide +kernel
theorem dX3_put_22 : decode cX3_put 22 = .ok (.iload_n 3, 1) := by decide +kernel
theorem dX3_put_23 : decode cX3_put 23 = .ok (.iload_n 2, 1) := by decide +kernel
theorem dX3_put_24 : decode cX3_put 24 = .ok (.iastore, 1) := by decide +kernel
theorem dX3_put_25 : decode cX3_put 25 = .ok (.return_, 1) := by decide +kernel
set_option maxRecDepth 100000 in
def F_X3_put_b25  (h : Hp) : Option (Unit × Hp) :=
  some ((), h)
set_option maxHeartbeats 4000000 in
set_option maxRecDepth 100000 in
theorem r_X3_put_b25  (h : Hp) {x : Cx} {r : Unit} {hz : Hp} (e : F_X3_put_b25  h = some (r, hz)) (hF : Fin9 M_X3_put x none none hz) : V M_X3_put x 0 25 [] [] h 0 0 := by
  unfold F_X3_put_b25 at e
  cases e
  exact V_vret (pc := 25) dX3_put_25 hF
set_option maxRecDepth 100000 in
def F_X3_put_b0 (v0 : Nat) (v1 : Int32) (v2 : Int32) (h : Hp) : Option (Unit × Hp) :=
  gd (decide (kd h v0 = 3)) <| ob (zR h v0 1) fun q2 => gd (decide (kd h q2 = 13)) <| (if (Int32.ofNat (zl h q2)) ≤ (((zI h v0 0) * (4 : Int32)) + v1) then F_X3_put_b25 h else ob (zR h v0 1) fun q5 => gd (decide (kd h q5 = 13)) <| gd (ix (((zI h v0 0) * (4 : Int32)) + v1) (zl h q5)) <| F_X3_put_b25 (setI h q5 (((zI h v0 0) * (4 : Int32)) + v1).toNatClampNeg v2))
set_option maxHeartbeats 4000000 in
set_option maxRecDepth 100000 in
theorem r_X3_put_b0 (v0 : Nat) (v1 : Int32) (v2 : Int32) (h : Hp) {x : Cx} {r : Unit} {hz : Hp} (e : F_X3_put_b0 v0 v1 v2 h = some (r, hz)) (hF : Fin9 M_X3_put x none none hz) : V M_X3_put x 0 0 [(0, .ref v0), (1, .int v1), (2, .int v2)] [] h 0 0 := by
  unfold F_X3_put_b0 at e
  refine V_aload_n (pc := 0) (i := 0) dX3_put_0 rfl rfl ?_
  obtain ⟨g1, e⟩ := gd_some e
  refine V_getI (pc := 1) (ci := 3) (k := 0) dX3_put_1 fl_X3_105 rfl (of_decide_eq_true g1) ?_
  refine V_iconst (pc := 4) (v := (4 : Int32)) dX3_put_4 (by decide) ?_
  refine V_imul (pc := 5) dX3_put_5 ?_
  refine V_iload_n (pc := 6) (i := 1) dX3_put_6 rfl rfl ?_
  refine V_iadd (pc := 7) dX3_put_7 ?_
  refine V_istore_n (pc := 8) (i := 3) (lv' := [(3, .int (((zI h v0 0) * (4 : Int32)) + v1)), (0, .ref v0), (1, .int v1), (2, .int v2)]) dX3_put_8 rfl (by decide) rfl ?_
  refine V_iload_n (pc := 9) (i := 3) dX3_put_9 rfl rfl ?_
  refine V_aload_n (pc := 10) (i := 0) dX3_put_10 rfl rfl ?_
  obtain ⟨q2, g3, e⟩ := ob_some e
  refine V_getR (pc := 11) (ci := 3) (k := 1) (b := q2) dX3_put_11 fl_X3_11 rfl (of_decide_eq_true g1) g3 ?_
  obtain ⟨g4, e⟩ := gd_some e
  refine V_alen (pc := 14) (k := 13) dX3_put_14 (of_decide_eq_true g4) (by decide) ?_
  refine V_icmp_ge (pc := 15) (tgt := 25) dX3_put_15 (by decide) (fun c9 => ?_) (fun c9 => ?_)
  · rw [if_pos c9] at e
    exact V_pick [] rfl (r_X3_put_b25 h e hF)
  · rw [if_neg c9] at e
    refine V_pick [1, 3, 0] rfl ?_
    refine V_aload_n (pc := 18) (i := 0) dX3_put_18 rfl rfl ?_
    obtain ⟨q5, g6, e⟩ := ob_some e
    refine V_getR (pc := 19) (ci := 3) (k := 1) (b := q5) dX3_put_19 fl_X3_11 rfl (of_decide_eq_true g1) g6 ?_
    refine V_iload_n (pc := 22) (i := 3) dX3_put_22 rfl rfl ?_
    refine V_iload_n (pc := 23) (i := 2) dX3_put_23 rfl rfl ?_
    obtain ⟨g7, e⟩ := gd_some e
    obtain ⟨g8, e⟩ := gd_some e
    refine V_iast (pc := 24) dX3_put_24 (of_decide_eq_true g7) (ix_in g8) ?_
    exact V_pick [] rfl (r_X3_put_b25 (setI h q5 (((zI h v0 0) * (4 : Int32)) + v1).toNatClampNeg v2) e hF)
def F_X3_put (v0 : Nat) (v1 : Int32) (v2 : Int32) (h : Hp) : Option (Unit × Hp) := F_X3_put_b0 v0 v1 v2 h
theorem c_X3_put {l : Launch} (v0 : Nat) (v1 : Int32) (v2 : Int32) (h : Hp) {r : Unit} {hz : Hp} (e : F_X3_put v0 v1 v2 h = some (r, hz)) : Ct l yX3_put M_X3_put none 0 [.ref v0, .int v1, .int v2] h 0 0 none hz :=
  Ct_of rfl rfl (fun q => by cases q) (Nat.le_of_ble_eq_true rfl) (fun x _ hF => V_pick [0, 1, 2] rfl (r_X3_put_b0 v0 v1 v2 h e hF))
theorem dX4_init_0 : decode cX4_init 0 = .ok (.aload_n 0, 1) := by decide +kernel
theorem dX4_init_1 : decode cX4_init 1 = .ok (.invokespecial 3, 3) := by decide +kernel
theorem dX4_init_4 : decode cX4_init 4 = .ok (.aload_n 0, 1) := by decide +kernel
theorem dX4_init_5 : decode cX4_init 5 = .ok (.iconst 0, 1) := by decide +kernel
theorem dX4_init_6 : decode cX4_init 6 = .ok (.newarray .int, 2) := by decide +kernel
theorem dX4_init_8 : decode cX4_init 8 = .ok (.putfield 9, 3) := by decide +kernel
theorem dX4_init_11 : decode cX4_init 11 = .ok (.aload_n 0, 1) := by decide +kernel
theorem dX4_init_12 : decode cX4_init 12 = .ok (.iconst 0, 1) := by decide +kernel
theorem dX4_init_13 : decode cX4_init 13 = .ok (.newarray .int, 2) := by decide +kernel
theorem dX4_init_15 : decode cX4_init 15 = .ok (.putfield 15, 3) := by decide +kernel
theorem dX4_init_18 : decode cX4_init 18 = .ok (.aload_n 0, 1) := by decide +kernel
theorem dX4_init_19 : decode cX4_init 19 = .ok (.iconst 0, 1) := by decide +kernel
theorem dX4_init_20 : decode cX4_init 20 = .ok (.putfield 18, 3) := by decide +kernel
theorem dX4_init_23 : decode cX4_init 23 = .ok (.return_, 1) := by decide +kernel
set_option maxRecDepth 100000 in
def F_X4_init_b0 (v0 : Nat) (h : Hp) : Option (Unit × Hp × Nat × Nat) :=
  ob (some (zN h)) fun q1 => ac 1 ((0 : Int32)).toNatClampNeg <| gd (decide (kd (alloc h 13 ((0 : Int32)).toNatClampNeg) v0 = 4)) <| ob (some (zN (setR (alloc h 13 ((0 : Int32)).toNatClampNeg) v0 0 (some q1)))) fun q6 => ac 1 ((0 : Int32)).toNatClampNeg <| ob (some (setR (alloc (setR (alloc h 13 ((0 : Int32)).toNatClampNeg) v0 0 (some q1)) 13 ((0 : Int32)).toNatClampNeg) v0 1 (some q6))) fun h10 => some ((), setI h10 v0 2 (0 : Int32), 0, 0)
set_option maxHeartbeats 4000000 in
set_option maxRecDepth 100000 in
theorem r_X4_init_b0 (v0 : Nat) (h : Hp) {x : Cx} {r : Unit} {hz : Hp} {c9 s9 : Nat} (e : F_X4_init_b0 v0 h = some (r, hz, c9, s9)) (hF : Fin9 M_X4_init x none none hz) : V M_X4_init x 1 0 [(0, .ref v0)] [] h c9 s9 := by
  unfold F_X4_init_b0 at e
  refine V_aload_n (pc := 0) (i := 0) dX4_init_0 rfl rfl ?_
  refine V_objI (pc := 1) dX4_init_1 wo_X4_3 (by decide) (Nat.le_of_ble_eq_true rfl) ?_
  refine V_aload_n (pc := 4) (i := 0) dX4_init_4 rfl rfl ?_
  refine V_iconst (pc := 5) (v := (0 : Int32)) dX4_init_5 (by decide) ?_
  replace e := ob_some e
  obtain ⟨q1, g2, e⟩ := e
  replace e := ac_some e
  obtain ⟨n3, n4, e, hc9, hs9⟩ := e
  rw [hc9, hs9]
  clear hc9 hs9
  refine V_newIQ (pc := 6) (n := (0 : Int32)) dX4_init_6 wa_int (by decide) (by decide) (q := q1) (bc := n3) (bs := n4) (Option.some.inj g2) ?_
  replace e := gd_some e
  obtain ⟨g5, e⟩ := e
  refine V_putR (pc := 8) (ci := 4) (k := 0) dX4_init_8 fp_X4_9 rfl (of_decide_eq_true g5) (fun _ => ⟨rfl, rfl⟩) ?_
  refine V_aload_n (pc := 11) (i := 0) dX4_init_11 rfl rfl ?_
  refine V_iconst (pc := 12) (v := (0 : Int32)) dX4_init_12 (by decide) ?_
  replace e := ob_some e
  obtain ⟨q6, g7, e⟩ := e
  replace e := ac_some e
  obtain ⟨n8, n9, e, hc9, hs9⟩ := e
  rw [hc9, hs9]
  clear hc9 hs9
  refine V_newIQ (pc := 13) (n := (0 : Int32)) dX4_init_13 wa_int (by decide) (by decide) (q := q6) (bc := n8) (bs := n9) (Option.some.inj g7) ?_
  refine V_putR (pc := 15) (ci := 4) (k := 1) dX4_init_15 fp_X4_15 rfl (kd_old (kd_sR (of_decide_eq_true g5)) (by decide)) (fun _ => ⟨rfl, rfl⟩) ?_
  replace e := ob_some e
  obtain ⟨h10, g11, e⟩ := e
  refine V_hp (Option.some.inj g11) ?_
  have k12 : kd h10 q1 = 13 := kd_eq (h := (setR (alloc (setR (alloc h 13 ((0 : Int32)).toNatClampNeg) v0 0 (some q1)) 13 ((0 : Int32)).toNatClampNeg) v0 1 (some q6))) (Option.some.inj g11) (kd_sR (kd_old (kd_sR (kd_newq (Option.some.inj g2))) (by decide)))
  have k13 : kd h10 v0 = 4 := kd_eq (h := (setR (alloc (setR (alloc h 13 ((0 : Int32)).toNatClampNeg) v0 0 (some q1)) 13 ((0 : Int32)).toNatClampNeg) v0 1 (some q6))) (Option.some.inj g11) (kd_sR (kd_old (kd_sR (of_decide_eq_true g5)) (by decide)))
  have k14 : kd h10 q6 = 13 := kd_eq (h := (setR (alloc (setR (alloc h 13 ((0 : Int32)).toNatClampNeg) v0 0 (some q1)) 13 ((0 : Int32)).toNatClampNeg) v0 1 (some q6))) (Option.some.inj g11) (kd_sR (kd_newq (Option.some.inj g7)))
  refine V_aload_n (pc := 18) (i := 0) dX4_init_18 rfl rfl ?_
  refine V_iconst (pc := 19) (v := (0 : Int32)) dX4_init_19 (by decide) ?_
  refine V_putI (pc := 20) (ci := 4) (k := 2) dX4_init_20 fp_X4_18 rfl k13 ?_
  cases e
  exact V_vret (pc := 23) dX4_init_23 hF
def F_X4_init (v0 : Nat) (h : Hp) : Option (Unit × Hp × Nat × Nat) := F_X4_init_b0 v0 h
theorem c_X4_init {l : Launch} (v0 : Nat) (h : Hp) {r : Unit} {hz : Hp} {c9 s9 : Nat} (e : F_X4_init v0 h = some (r, hz, c9, s9)) : Ct l yX4_init M_X4_init none 1 [.ref v0] h c9 s9 none hz :=
  Ct_of rfl rfl (fun _ => rfl) (Nat.le_of_ble_eq_true rfl) (fun x _ hF => V_pick [0] rfl (r_X4_init_b0 v0 h e hF))
theorem dX4_shutAll_0 : decode cX4_shutAll 0 = .ok (.ldc 59, 2) := by decide +kernel
theorem dX4_shutAll_2 : decode cX4_shutAll 2 = .ok (.iconst 1, 1) := by decide +kernel
theorem dX4_shutAll_3 : decode cX4_shutAll 3 = .ok (.iconst 3, 1) := by decide +kernel
theorem dX4_shutAll_4 : decode cX4_shutAll 4 = .ok (.iload_n 1, 1) := by decide +kernel
theorem dX4_shutAll_5 : decode cX4_shutAll 5 = .ok (.imul, 1) := by decide +kernel
theorem dX4_shutAll_6 : decode cX4_shutAll 6 = .ok (.ishl, 1) := by decide +kernel
theorem dX4_shutAll_7 : decode cX4_shutAll 7 = .ok (.invokestatic 75, 3) := by decide +kernel
theorem dX4_shutAll_10 : decode cX4_shutAll 10 = .ok (.istore_n 2, 1) := by decide +kernel
theorem dX4_shutAll_11 : decode cX4_shutAll 11 = .ok (.aload_n 0, 1) := by decide +kernel
theorem dX4_shutAll_12 : decode cX4_shutAll 12 = .ok (.getfield 9, 3) := by decide +kernel
theorem dX4_shutAll_15 : decode cX4_shutAll 15 = .ok (.arraylength, 1) := by decide +kernel
theorem dX4_shutAll_16 : decode cX4_shutAll 16 = .ok (.iload_n 2, 1) := by decide +kernel
theorem dX4_shutAll_17 : decode cX4_shutAll 17 = .ok (.if_icmp .ge 17, 3) := by decide +kernel
theorem dX4_shutAll_20 : decode cX4_shutAll 20 = .ok (.aload_n 0, 1) := by decide +kernel
theorem dX4_shutAll_21 : decode cX4_shutAll 21 = .ok (.iload_n 2, 1) := by decide +kernel
theorem dX4_shutAll_22 : decode cX4_shutAll 22 = .ok (.newarray .int, 2) := by decide +kernel
theorem dX4_shutAll_24 : decode cX4_shutAll 24 = .ok (.putfield 9, 3) := by decide +kernel
theorem dX4_shutAll_27 : decode cX4_shutAll 27 = .ok (.aload_n 0, 1) := by decide +kernel
theorem dX4_shutAll_28 : decode cX4_shutAll 28 = .ok (.iload_n 2, 1) := by decide +kernel
theorem dX4_shutAll_29 : decode cX4_shutAll 29 = .ok (.newarray .int, 2) := by decide +kernel
theorem dX4_shutAll_31 : decode cX4_shutAll 31 = .ok (.putfield 15, 3) := by decide +kernel
theorem dX4_shutAll_34 : decode cX4_shutAll 34 = .ok (.iconst 0, 1) := by decide +kernel
theorem dX4_shutAll_35 : decode cX4_shutAll 35 = .ok (.istore_n 3, 1) := by decide +kernel
theorem dX4_shutAll_36 : decode cX4_shutAll 36 = .ok (.iload_n 3, 1) := by decide +kernel
theorem dX4_shutAll_37 : decode cX4_shutAll 37 = .ok (.iload_n 2, 1) := by decide +kernel
theorem dX4_shutAll_38 : decode cX4_shutAll 38 = .ok (.if_icmp .ge 17, 3) := by decide +kernel
theorem dX4_shutAll_41 : decode cX4_shutAll 41 = .ok (.aload_n 0, 1) := by decide +kernel
theorem dX4_shutAll_42 : decode cX4_shutAll 42 = .ok (.getfield 9, 3) := by decide +kernel
theorem dX4_shutAll_45 : decode cX4_shutAll 45 = .ok (.iload_n 3, 1) := by decide +kernel
theorem dX4_shutAll_46 : decode cX4_shutAll 46 = .ok (.bipush (-2), 2) := by decide +kernel
theorem dX4_shutAll_48 : decode cX4_shutAll 48 = .ok (.iastore, 1) := by decide +kernel
theorem dX4_shutAll_49 : decode cX4_shutAll 49 = .ok (.iinc 3 1, 3) := by decide +kernel
theorem dX4_shutAll_52 : decode cX4_shutAll 52 = .ok (.goto (-16), 3) := by decide +kernel
theorem dX4_shutAll_55 : decode cX4_shutAll 55 = .ok (.aload_n 0, 1) := by decide +kernel
theorem dX4_shutAll_56 : decode cX4_shutAll 56 = .ok (.iconst 0, 1) := by decide +kernel
theorem dX4_shutAll_57 : decode cX4_shutAll 57 = .ok (.putfield 18, 3) := by decide +kernel
theorem dX4_shutAll_60 : decode cX4_shutAll 60 = .ok (.return_, 1) := by decide +kernel
set_option maxRecDepth 100000 in
def F_X4_shutAll_l36 (v0 : Nat) (v2 : Int32) (v3 : Int32) (h : Hp) : Option ((Int32 × Hp) ⊕ Hp) :=
  (if v2 ≤ v3 then some (.inr h) else gd (decide (kd h v0 = 4)) <| ob (zR h v0 0) fun q6 => gd (decide (kd h q6 = 13)) <| gd (ix v3 (zl h q6)) <| some (.inl (v3 + (1 : Int32), setI h q6 (v3).toNatClampNeg (-2 : Int32))))
set_option maxHeartbeats 4000000 in
set_option maxRecDepth 100000 in
theorem r_X4_shutAll_l36 (v0 : Nat) (v2 : Int32) (v3 : Int32) (h : Hp) {bc bs : Nat} {x : Cx} {o : ((Int32 × Hp) ⊕ Hp)} (e : F_X4_shutAll_l36 v0 v2 v3 h = some o) (kI : ∀ z, o = .inl z → V M_X4_shutAll x 1 36 [(0, .ref v0), (2, .int v2), (3, .int z.1)] [] z.2 bc bs) (kE55 : ∀ z : Hp, o = .inr z → V M_X4_shutAll x 1 55 [(0, .ref v0)] [] z bc bs) : V M_X4_shutAll x 1 36 [(0, .ref v0), (2, .int v2), (3, .int v3)] [] h bc bs := by
  unfold F_X4_shutAll_l36 at e
  refine V_iload_n (pc := 36) (i := 3) dX4_shutAll_36 rfl rfl ?_
  refine V_iload_n (pc := 37) (i := 2) dX4_shutAll_37 rfl rfl ?_
  refine V_icmp_ge (pc := 38) (tgt := 55) dX4_shutAll_38 (by decide) (fun c10 => ?_) (fun c10 => ?_)
  · rw [if_pos c10] at e
    cases e
    exact V_pick [0] rfl (kE55 h rfl)
  · rw [if_neg c10] at e
    refine V_pick [0, 1, 2] rfl ?_
    refine V_aload_n (pc := 41) (i := 0) dX4_shutAll_41 rfl rfl ?_
    replace e := gd_some e
    obtain ⟨g5, e⟩ := e
    replace e := ob_some e
    obtain ⟨q6, g7, e⟩ := e
    refine V_getR (pc := 42) (ci := 4) (k := 0) (b := q6) dX4_shutAll_42 fl_X4_9 rfl (of_decide_eq_true g5) g7 ?_
    refine V_iload_n (pc := 45) (i := 3) dX4_shutAll_45 rfl rfl ?_
    refine V_bipush (pc := 46) (v := (-2 : Int32)) dX4_shutAll_46 (by decide) ?_
    replace e := gd_some e
    obtain ⟨g8, e⟩ := e
    replace e := gd_some e
    obtain ⟨g9, e⟩ := e
    refine V_iast (pc := 48) dX4_shutAll_48 (of_decide_eq_true g8) (ix_in g9) ?_
    refine V_iinc (pc := 49) (i := 3) (u := v3 + (1 : Int32)) (lv' := [(3, .int (v3 + (1 : Int32))), (0, .ref v0), (2, .int v2)]) dX4_shutAll_49 rfl rfl (by decide) rfl ?_
    refine V_goto (pc := 52) (tgt := 36) dX4_shutAll_52 (by decide) ?_
    cases e
    exact V_pick [1, 2, 0] rfl (kI (v3 + (1 : Int32), setI h q6 (v3).toNatClampNeg (-2 : Int32)) rfl)
set_option maxRecDepth 100000 in
def F_X4_shutAll_b34 (v0 : Nat) (v2 : Int32) (h : Hp) : Option (Unit × Hp × Nat × Nat) :=
  ob (iter (fun z : Int32 × Hp => F_X4_shutAll_l36 v0 v2 z.1 z.2) FU ((0 : Int32), h)) (fun h11 => gd (decide (kd h11 v0 = 4)) <| some ((), setI h11 v0 2 (0 : Int32), 0, 0))
set_option maxHeartbeats 4000000 in
set_option maxRecDepth 100000 in
theorem r_X4_shutAll_b34 (v0 : Nat) (v2 : Int32) (h : Hp) {x : Cx} {r : Unit} {hz : Hp} {c9 s9 : Nat} (e : F_X4_shutAll_b34 v0 v2 h = some (r, hz, c9, s9)) (hF : Fin9 M_X4_shutAll x none none hz) : V M_X4_shutAll x 1 34 [(0, .ref v0), (2, .int v2)] [] h c9 s9 := by
  unfold F_X4_shutAll_b34 at e
  refine V_iconst (pc := 34) (v := (0 : Int32)) dX4_shutAll_34 (by decide) ?_
  refine V_istore_n (pc := 35) (i := 3) (lv' := [(3, .int (0 : Int32)), (0, .ref v0), (2, .int v2)]) dX4_shutAll_35 rfl (by decide) rfl ?_
  refine V_pick [1, 2, 0] rfl ?_
  replace e := ob_some e
  obtain ⟨y13, g14, e⟩ := e
  refine iter_V (P := fun z : Int32 × Hp => V M_X4_shutAll x 1 36 [(0, .ref v0), (2, .int v2), (3, .int z.1)] [] z.2 c9 s9) (E := fun z : Hp => V M_X4_shutAll x 1 55 [(0, .ref v0)] [] z c9 s9) (fun z o e9 k1 k2 => r_X4_shutAll_l36 v0 v2 z.1 z.2 e9 (fun z hz9 => k1 z hz9) (fun z hz9 => k2 _ hz9)) _ _ _ g14 ?_
  clear g14
  obtain ⟨h11, rfl⟩ : ∃ q, q = y13 := ⟨_, rfl⟩
  replace e : (gd (decide (kd h11 v0 = 4)) <| some ((), setI h11 v0 2 (0 : Int32), 0, 0)) = some (r, hz, c9, s9) := e
  show V M_X4_shutAll x 1 55 [(0, .ref v0)] [] h11 c9 s9
  refine V_aload_n (pc := 55) (i := 0) dX4_shutAll_55 rfl rfl ?_
  refine V_iconst (pc := 56) (v := (0 : Int32)) dX4_shutAll_56 (by decide) ?_
  replace e := gd_some e
  obtain ⟨g12, e⟩ := e
  refine V_putI (pc := 57) (ci := 4) (k := 2) dX4_shutAll_57 fp_X4_18 rfl (of_decide_eq_true g12) ?_
  cases e
  exact V_vret (pc := 60) dX4_shutAll_60 hF
set_option maxRecDepth 100000 in
def F_X4_shutAll_b0 (v0 : Nat) (v1 : Int32) (h : Hp) : Option (Unit × Hp × Nat × Nat) :=
  gd (decide (kd h v0 = 4)) <| ob (zR h v0 0) fun q2 => gd (decide (kd h q2 = 13)) <| (if (jmin (32768 : Int32) ((1 : Int32) <<< (((3 : Int32) * v1) &&& 31))) ≤ (Int32.ofNat (zl h q2)) then F_X4_shutAll_b34 v0 (jmin (32768 : Int32) ((1 : Int32) <<< (((3 : Int32) * v1) &&& 31))) h else gd (decide (¬ (jmin (32768 : Int32) ((1 : Int32) <<< (((3 : Int32) * v1) &&& 31))) < 0 ∧ (jmin (32768 : Int32) ((1 : Int32) <<< (((3 : Int32) * v1) &&& 31))).toNatClampNeg ≤ 60000000)) <| ob (some (zN h)) fun q16 => ac 1 (jmin (32768 : Int32) ((1 : Int32) <<< (((3 : Int32) * v1) &&& 31))).toNatClampNeg <| gd (decide (¬ (jmin (32768 : Int32) ((1 : Int32) <<< (((3 : Int32) * v1) &&& 31))) < 0 ∧ (jmin (32768 : Int32) ((1 : Int32) <<< (((3 : Int32) * v1) &&& 31))).toNatClampNeg ≤ 60000000)) <| ob (some (zN (setR (alloc h 13 (jmin (32768 : Int32) ((1 : Int32) <<< (((3 : Int32) * v1) &&& 31))).toNatClampNeg) v0 0 (some q16)))) fun q21 => ac 1 (jmin (32768 : Int32) ((1 : Int32) <<< (((3 : Int32) * v1) &&& 31))).toNatClampNeg <| ob (some (alloc (setR (alloc h 13 (jmin (32768 : Int32) ((1 : Int32) <<< (((3 : Int32) * v1) &&& 31))).toNatClampNeg) v0 0 (some q16)) 13 (jmin (32768 : Int32) ((1 : Int32) <<< (((3 : Int32) * v1) &&& 31))).toNatClampNeg)) fun h25 => F_X4_shutAll_b34 v0 (jmin (32768 : Int32) ((1 : Int32) <<< (((3 : Int32) * v1) &&& 31))) (setR h25 v0 1 (some q21)))
set_option maxHeartbeats 4000000 in
set_option maxRecDepth 100000 in
theorem r_X4_shutAll_b0 (v0 : Nat) (v1 : Int32) (h : Hp) {x : Cx} {r : Unit} {hz : Hp} {c9 s9 : Nat} (e : F_X4_shutAll_b0 v0 v1 h = some (r, hz, c9, s9)) (hF : Fin9 M_X4_shutAll x none none hz) : V M_X4_shutAll x 1 0 [(0, .ref v0), (1, .int v1)] [] h c9 s9 := by
  unfold F_X4_shutAll_b0 at e
  refine V_ldc (pc := 0) (v := (32768 : Int32)) dX4_shutAll_0 (wk_X4_59) ?_
  refine V_iconst (pc := 2) (v := (1 : Int32)) dX4_shutAll_2 (by decide) ?_
  refine V_iconst (pc := 3) (v := (3 : Int32)) dX4_shutAll_3 (by decide) ?_
  refine V_iload_n (pc := 4) (i := 1) dX4_shutAll_4 rfl rfl ?_
  refine V_imul (pc := 5) dX4_shutAll_5 ?_
  refine V_ishl (pc := 6) dX4_shutAll_6 ?_
  refine V_min (pc := 7) dX4_shutAll_7 wm_X4_75 (by decide) (Nat.le_of_ble_eq_true rfl) ?_
  refine V_istore_n (pc := 10) (i := 2) (lv' := [(2, .int (jmin (32768 : Int32) ((1 : Int32) <<< (((3 : Int32) * v1) &&& 31)))), (0, .ref v0), (1, .int v1)]) dX4_shutAll_10 rfl (by decide) rfl ?_
  refine V_aload_n (pc := 11) (i := 0) dX4_shutAll_11 rfl rfl ?_
  replace e := gd_some e
  obtain ⟨g1, e⟩ := e
  replace e := ob_some e
  obtain ⟨q2, g3, e⟩ := e
  refine V_getR (pc := 12) (ci := 4) (k := 0) (b := q2) dX4_shutAll_12 fl_X4_9 rfl (of_decide_eq_true g1) g3 ?_
  replace e := gd_some e
  obtain ⟨g4, e⟩ := e
  refine V_alen (pc := 15) (k := 13) dX4_shutAll_15 (of_decide_eq_true g4) (by decide) ?_
  refine V_iload_n (pc := 16) (i := 2) dX4_shutAll_16 rfl rfl ?_
  refine V_icmp_ge (pc := 17) (tgt := 34) dX4_shutAll_17 (by decide) (fun c31 => ?_) (fun c31 => ?_)
  · rw [if_pos c31] at e
    exact V_pick [1, 0] rfl (r_X4_shutAll_b34 v0 (jmin (32768 : Int32) ((1 : Int32) <<< (((3 : Int32) * v1) &&& 31))) h e hF)
  · rw [if_neg c31] at e
    refine V_pick [1, 0] rfl ?_
    refine V_aload_n (pc := 20) (i := 0) dX4_shutAll_20 rfl rfl ?_
    refine V_iload_n (pc := 21) (i := 2) dX4_shutAll_21 rfl rfl ?_
    replace e := gd_some e
    obtain ⟨g15, e⟩ := e
    replace e := ob_some e
    obtain ⟨q16, g17, e⟩ := e
    replace e := ac_some e
    obtain ⟨n18, n19, e, hc9, hs9⟩ := e
    rw [hc9, hs9]
    clear hc9 hs9
    refine V_newIQ (pc := 22) (n := jmin (32768 : Int32) ((1 : Int32) <<< (((3 : Int32) * v1) &&& 31))) dX4_shutAll_22 wa_int (of_decide_eq_true g15).1 (of_decide_eq_true g15).2 (q := q16) (bc := n18) (bs := n19) (Option.some.inj g17) ?_
    refine V_putR (pc := 24) (ci := 4) (k := 0) dX4_shutAll_24 fp_X4_9 rfl (kd_old (of_decide_eq_true g1) (by decide)) (fun _ => ⟨rfl, rfl⟩) ?_
    refine V_aload_n (pc := 27) (i := 0) dX4_shutAll_27 rfl rfl ?_
    refine V_iload_n (pc := 28) (i := 2) dX4_shutAll_28 rfl rfl ?_
    replace e := gd_some e
    obtain ⟨g20, e⟩ := e
    replace e := ob_some e
    obtain ⟨q21, g22, e⟩ := e
    replace e := ac_some e
    obtain ⟨n23, n24, e, hc9, hs9⟩ := e
    rw [hc9, hs9]
    clear hc9 hs9
    refine V_newIQ (pc := 29) (n := jmin (32768 : Int32) ((1 : Int32) <<< (((3 : Int32) * v1) &&& 31))) dX4_shutAll_29 wa_int (of_decide_eq_true g20).1 (of_decide_eq_true g20).2 (q := q21) (bc := n23) (bs := n24) (Option.some.inj g22) ?_
    replace e := ob_some e
    obtain ⟨h25, g26, e⟩ := e
    refine V_hp (Option.some.inj g26) ?_
    have k27 : kd h25 v0 = 4 := kd_eq (h := (alloc (setR (alloc h 13 (jmin (32768 : Int32) ((1 : Int32) <<< (((3 : Int32) * v1) &&& 31))).toNatClampNeg) v0 0 (some q16)) 13 (jmin (32768 : Int32) ((1 : Int32) <<< (((3 : Int32) * v1) &&& 31))).toNatClampNeg)) (Option.some.inj g26) (kd_old (kd_sR (kd_old (of_decide_eq_true g1) (by decide))) (by decide))
    have k28 : kd h25 q2 = 13 := kd_eq (h := (alloc (setR (alloc h 13 (jmin (32768 : Int32) ((1 : Int32) <<< (((3 : Int32) * v1) &&& 31))).toNatClampNeg) v0 0 (some q16)) 13 (jmin (32768 : Int32) ((1 : Int32) <<< (((3 : Int32) * v1) &&& 31))).toNatClampNeg)) (Option.some.inj g26) (kd_old (kd_sR (kd_old (of_decide_eq_true g4) (by decide))) (by decide))
    have k29 : kd h25 q16 = 13 := kd_eq (h := (alloc (setR (alloc h 13 (jmin (32768 : Int32) ((1 : Int32) <<< (((3 : Int32) * v1) &&& 31))).toNatClampNeg) v0 0 (some q16)) 13 (jmin (32768 : Int32) ((1 : Int32) <<< (((3 : Int32) * v1) &&& 31))).toNatClampNeg)) (Option.some.inj g26) (kd_old (kd_sR (kd_newq (Option.some.inj g17))) (by decide))
    have k30 : kd h25 q21 = 13 := kd_eq (h := (alloc (setR (alloc h 13 (jmin (32768 : Int32) ((1 : Int32) <<< (((3 : Int32) * v1) &&& 31))).toNatClampNeg) v0 0 (some q16)) 13 (jmin (32768 : Int32) ((1 : Int32) <<< (((3 : Int32) * v1) &&& 31))).toNatClampNeg)) (Option.some.inj g26) (kd_newq (Option.some.inj g22))
    refine V_putR (pc := 31) (ci := 4) (k := 1) dX4_shutAll_31 fp_X4_15 rfl k27 (fun _ => ⟨rfl, rfl⟩) ?_
    exact V_pick [0, 1] rfl (r_X4_shutAll_b34 v0 (jmin (32768 : Int32) ((1 : Int32) <<< (((3 : Int32) * v1) &&& 31))) (setR h25 v0 1 (some q21)) e hF)
def F_X4_shutAll (v0 : Nat) (v1 : Int32) (h : Hp) : Option (Unit × Hp × Nat × Nat) := F_X4_shutAll_b0 v0 v1 h
theorem c_X4_shutAll {l : Launch} (v0 : Nat) (v1 : Int32) (h : Hp) {r : Unit} {hz : Hp} {c9 s9 : Nat} (e : F_X4_shutAll v0 v1 h = some (r, hz, c9, s9)) : Ct l yX4_shutAll M_X4_shutAll none 1 [.ref v0, .int v1] h c9 s9 none hz :=
  Ct_of rfl rfl (fun q => by cases q) (Nat.le_of_ble_eq_true rfl) (fun x _ hF => V_pick [0, 1] rfl (r_X4_shutAll_b0 v0 v1 h e hF))
theorem dX4_reach_0 : decode cX4_reach 0 = .ok (.aload_n 0, 1) := by decide +kernel
theorem dX4_reach_1 : decode cX4_reach 1 = .ok (.getfield 9, 3) := by decide +kernel
theorem dX4_reach_4 : decode cX4_reach 4 = .ok (.iload_n 1, 1) := by decide +kernel
theorem dX4_reach_5 : decode cX4_reach 5 = .ok (.iaload, 1) := by decide +kernel
theorem dX4_reach_6 : decode cX4_reach 6 = .ok (.iconst (-1), 1) := by decide +kernel
theorem dX4_reach_7 : decode cX4_reach 7 = .ok (.if_icmp .ne 42, 3) := by decide +kernel
theorem dX4_reach_10 : decode cX4_reach 10 = .ok (.aload_n 0, 1) := by decide +kernel
theorem dX4_reach_11 : decode cX4_reach 11 = .ok (.getfield 18, 3) := by decide +kernel
theorem dX4_reach_14 : decode cX4_reach 14 = .ok (.aload_n 0, 1) := by decide +kernel
theorem dX4_reach_15 : decode cX4_reach 15 = .ok (.getfield 15, 3) := by decide +kernel
theorem dX4_reach_18 : decode cX4_reach 18 = .ok (.arraylength, 1) := by decide +kernel
theorem dX4_reach_19 : decode cX4_reach 19 = .ok (.if_icmp .ge 30, 3) := by decide +kernel
theorem dX4_reach_22 : decode cX4_reach 22 = .ok (.aload_n 0, 1) := by decide +kernel
theorem dX4_reach_23 : decode cX4_reach 23 = .ok (.getfield 9, 3) := by decide +kernel
theorem dX4_reach_26 : decode cX4_reach 26 = .ok (.iload_n 1, 1) := by decide +kernel
theorem dX4_reach_27 : decode cX4_reach 27 = .ok (.iload_n 2, 1) := by decide +kernel
theorem dX4_reach_28 : decode cX4_reach 28 = .ok (.iastore, 1) := by decide +kernel
theorem dX4_reach_29 : decode cX4_reach 29 = .ok (.aload_n 0, 1) := by decide +kernel
theorem dX4_reach_30 : decode cX4_reach 30 = .ok (.getfield 15, 3) := by decide +kernel
theorem dX4_reach_33 : decode cX4_reach 33 = .ok (.aload_n 0, 1) := by decide +kernel
theorem dX4_reach_34 : decode cX4_reach 34 = .ok (.getfield 18, 3) := by decide +kernel
theorem dX4_reach_37 : decode cX4_reach 37 = .ok (.iload_n 1, 1) := by decide +kernel
theorem dX4_reach_38 : decode cX4_reach 38 = .ok (.iastore, 1) := by decide +kernel
theorem dX4_reach_39 : decode cX4_reach 39 = .ok (.aload_n 0, 1) := by decide +kernel
theorem dX4_reach_40 : decode cX4_reach 40 = .ok (.dup, 1) := by decide +kernel
theorem dX4_reach_41 : decode cX4_reach 41 = .ok (.getfield 18, 3) := by decide +kernel
theorem dX4_reach_44 : decode cX4_reach 44 = .ok (.iconst 1, 1) := by decide +kernel
theorem dX4_reach_45 : decode cX4_reach 45 = .ok (.iadd, 1) := by decide +kernel
theorem dX4_reach_46 : decode cX4_reach 46 = .ok (.putfield 18, 3) := by decide +kernel
theorem dX4_reach_49 : decode cX4_reach 49 = .ok (.return_, 1) := by decide +kernel
set_option maxRecDepth 100000 in
def F_X4_reach_b49  (h : Hp) : Option (Unit × Hp) :=
  some ((), h)
set_option maxHeartbeats 4000000 in
set_option maxRecDepth 100000 in
theorem r_X4_reach_b49  (h : Hp) {x : Cx} {r : Unit} {hz : Hp} (e : F_X4_reach_b49  h = some (r, hz)) (hF : Fin9 M_X4_reach x none none hz) : V M_X4_reach x 0 49 [] [] h 0 0 := by
  unfold F_X4_reach_b49 at e
  cases e
  exact V_vret (pc := 49) dX4_reach_49 hF
set_option maxRecDepth 100000 in
def F_X4_reach_b0 (v0 : Nat) (v1 : Int32) (v2 : Int32) (h : Hp) : Option (Unit × Hp) :=
  gd (decide (kd h v0 = 4)) <| ob (zR h v0 0) fun q2 => gd (decide (kd h q2 = 13)) <| gd (ix v1 (zl h q2)) <| (if (zI h q2 (v1).toNatClampNeg) = (-1 : Int32) then ob (zR h v0 1) fun q6 => gd (decide (kd h q6 = 13)) <| (if (Int32.ofNat (zl h q6)) ≤ (zI h v0 2) then F_X4_reach_b49 h else ob (zR h v0 0) fun q9 => gd (decide (kd h q9 = 13)) <| gd (ix v1 (zl h q9)) <| ob (zR (setI h q9 (v1).toNatClampNeg v2) v0 1) fun q13 => gd (decide (kd (setI h q9 (v1).toNatClampNeg v2) q13 = 13)) <| gd (ix (zI (setI h q9 (v1).toNatClampNeg v2) v0 2) (zl (setI h q9 (v1).toNatClampNeg v2) q13)) <| ob (some (setI (setI (setI h q9 (v1).toNatClampNeg v2) q13 (zI (setI h q9 (v1).toNatClampNeg v2) v0 2).toNatClampNeg v1) v0 2 ((zI (setI (setI h q9 (v1).toNatClampNeg v2) q13 (zI (setI h q9 (v1).toNatClampNeg v2) v0 2).toNatClampNeg v1) v0 2) + (1 : Int32)))) fun h17 => F_X4_reach_b49 h17) else F_X4_reach_b49 h)
set_option maxHeartbeats 4000000 in
set_option maxRecDepth 100000 in
theorem r_X4_reach_b0 (v0 : Nat) (v1 : Int32) (v2 : Int32) (h : Hp) {x : Cx} {r : Unit} {hz : Hp} (e : F_X4_reach_b0 v0 v1 v2 h = some (r, hz)) (hF : Fin9 M_X4_reach x none none hz) : V M_X4_reach x 0 0 [(0, .ref v0), (1, .int v1), (2, .int v2)] [] h 0 0 := by
  unfold F_X4_reach_b0 at e
  refine V_aload_n (pc := 0) (i := 0) dX4_reach_0 rfl rfl ?_
  obtain ⟨g1, e⟩ := gd_some e
  obtain ⟨q2, g3, e⟩ := ob_some e
  refine V_getR (pc := 1) (ci := 4) (k := 0) (b := q2) dX4_reach_1 fl_X4_9 rfl (of_decide_eq_true g1) g3 ?_
  refine V_iload_n (pc := 4) (i := 1) dX4_reach_4 rfl rfl ?_
  obtain ⟨g4, e⟩ := gd_some e
  obtain ⟨g5, e⟩ := gd_some e
  refine V_iald (pc := 5) dX4_reach_5 (of_decide_eq_true g4) (ix_in g5) ?_
  refine V_iconst (pc := 6) (v := (-1 : Int32)) dX4_reach_6 (by decide) ?_
  refine V_icmp_ne (pc := 7) (tgt := 49) dX4_reach_7 (by decide) (fun c25 => ?_) (fun c25 => ?_)
  · rw [if_neg c25] at e
    exact V_pick [] rfl (r_X4_reach_b49 h e hF)
  · rw [if_pos c25] at e
    refine V_pick [0, 1, 2] rfl ?_
    refine V_aload_n (pc := 10) (i := 0) dX4_reach_10 rfl rfl ?_
    refine V_getI (pc := 11) (ci := 4) (k := 2) dX4_reach_11 fl_X4_18 rfl (of_decide_eq_true g1) ?_
    refine V_aload_n (pc := 14) (i := 0) dX4_reach_14 rfl rfl ?_
    obtain ⟨q6, g7, e⟩ := ob_some e
    refine V_getR (pc := 15) (ci := 4) (k := 1) (b := q6) dX4_reach_15 fl_X4_15 rfl (of_decide_eq_true g1) g7 ?_
    obtain ⟨g8, e⟩ := gd_some e
    refine V_alen (pc := 18) (k := 13) dX4_reach_18 (of_decide_eq_true g8) (by decide) ?_
    refine V_icmp_ge (pc := 19) (tgt := 49) dX4_reach_19 (by decide) (fun c24 => ?_) (fun c24 => ?_)
    · rw [if_pos c24] at e
      exact V_pick [] rfl (r_X4_reach_b49 h e hF)
    · rw [if_neg c24] at e
      refine V_pick [0, 1, 2] rfl ?_
      refine V_aload_n (pc := 22) (i := 0) dX4_reach_22 rfl rfl ?_
      obtain ⟨q9, g10, e⟩ := ob_some e
      refine V_getR (pc := 23) (ci := 4) (k := 0) (b := q9) dX4_reach_23 fl_X4_9 rfl (of_decide_eq_true g1) g10 ?_
      refine V_iload_n (pc := 26) (i := 1) dX4_reach_26 rfl rfl ?_
      refine V_iload_n (pc := 27) (i := 2) dX4_reach_27 rfl rfl ?_
      obtain ⟨g11, e⟩ := gd_some e
      obtain ⟨g12, e⟩ := gd_some e
      refine V_iast (pc := 28) dX4_reach_28 (of_decide_eq_true g11) (ix_in g12) ?_
      refine V_aload_n (pc := 29) (i := 0) dX4_reach_29 rfl rfl ?_
      obtain ⟨q13, g14, e⟩ := ob_some e
      refine V_getR (pc := 30) (ci := 4) (k := 1) (b := q13) dX4_reach_30 fl_X4_15 rfl (kd_sI (of_decide_eq_true g1)) g14 ?_
      refine V_aload_n (pc := 33) (i := 0) dX4_reach_33 rfl rfl ?_
      refine V_getI (pc := 34) (ci := 4) (k := 2) dX4_reach_34 fl_X4_18 rfl (kd_sI (of_decide_eq_true g1)) ?_
      refine V_iload_n (pc := 37) (i := 1) dX4_reach_37 rfl rfl ?_
      obtain ⟨g15, e⟩ := gd_some e
      obtain ⟨g16, e⟩ := gd_some e
      refine V_iast (pc := 38) dX4_reach_38 (of_decide_eq_true g15) (ix_in g16) ?_
      refine V_aload_n (pc := 39) (i := 0) dX4_reach_39 rfl rfl ?_
      refine V_dup (pc := 40) dX4_reach_40 rfl ?_
      refine V_getI (pc := 41) (ci := 4) (k := 2) dX4_reach_41 fl_X4_18 rfl (kd_sI (kd_sI (of_decide_eq_true g1))) ?_
      refine V_iconst (pc := 44) (v := (1 : Int32)) dX4_reach_44 (by decide) ?_
      refine V_iadd (pc := 45) dX4_reach_45 ?_
      refine V_putI (pc := 46) (ci := 4) (k := 2) dX4_reach_46 fp_X4_18 rfl (kd_sI (kd_sI (of_decide_eq_true g1))) ?_
      obtain ⟨h17, g18, e⟩ := ob_some e
      refine V_hp (Option.some.inj g18) ?_
      have k19 : kd h17 v0 = 4 := kd_eq (h := (setI (setI (setI h q9 (v1).toNatClampNeg v2) q13 (zI (setI h q9 (v1).toNatClampNeg v2) v0 2).toNatClampNeg v1) v0 2 ((zI (setI (setI h q9 (v1).toNatClampNeg v2) q13 (zI (setI h q9 (v1).toNatClampNeg v2) v0 2).toNatClampNeg v1) v0 2) + (1 : Int32)))) (Option.some.inj g18) (kd_sI (kd_sI (kd_sI (of_decide_eq_true g1))))
      have k20 : kd h17 q2 = 13 := kd_eq (h := (setI (setI (setI h q9 (v1).toNatClampNeg v2) q13 (zI (setI h q9 (v1).toNatClampNeg v2) v0 2).toNatClampNeg v1) v0 2 ((zI (setI (setI h q9 (v1).toNatClampNeg v2) q13 (zI (setI h q9 (v1).toNatClampNeg v2) v0 2).toNatClampNeg v1) v0 2) + (1 : Int32)))) (Option.some.inj g18) (kd_sI (kd_sI (kd_sI (of_decide_eq_true g4))))
      have k21 : kd h17 q6 = 13 := kd_eq (h := (setI (setI (setI h q9 (v1).toNatClampNeg v2) q13 (zI (setI h q9 (v1).toNatClampNeg v2) v0 2).toNatClampNeg v1) v0 2 ((zI (setI (setI h q9 (v1).toNatClampNeg v2) q13 (zI (setI h q9 (v1).toNatClampNeg v2) v0 2).toNatClampNeg v1) v0 2) + (1 : Int32)))) (Option.some.inj g18) (kd_sI (kd_sI (kd_sI (of_decide_eq_true g8))))
      have k22 : kd h17 q9 = 13 := kd_eq (h := (setI (setI (setI h q9 (v1).toNatClampNeg v2) q13 (zI (setI h q9 (v1).toNatClampNeg v2) v0 2).toNatClampNeg v1) v0 2 ((zI (setI (setI h q9 (v1).toNatClampNeg v2) q13 (zI (setI h q9 (v1).toNatClampNeg v2) v0 2).toNatClampNeg v1) v0 2) + (1 : Int32)))) (Option.some.inj g18) (kd_sI (kd_sI (kd_sI (of_decide_eq_true g11))))
      have k23 : kd h17 q13 = 13 := kd_eq (h := (setI (setI (setI h q9 (v1).toNatClampNeg v2) q13 (zI (setI h q9 (v1).toNatClampNeg v2) v0 2).toNatClampNeg v1) v0 2 ((zI (setI (setI h q9 (v1).toNatClampNeg v2) q13 (zI (setI h q9 (v1).toNatClampNeg v2) v0 2).toNatClampNeg v1) v0 2) + (1 : Int32)))) (Option.some.inj g18) (kd_sI (kd_sI (of_decide_eq_true g15)))
      exact V_pick [] rfl (r_X4_reach_b49 h17 e hF)
def F_X4_reach (v0 : Nat) (v1 : Int32) (v2 : Int32) (h : Hp) : Option (Unit × Hp) := F_X4_reach_b0 v0 v1 v2 h
theorem c_X4_reach {l : Launch} (v0 : Nat) (v1 : Int32) (v2 : Int32) (h : Hp) {r : Unit} {hz : Hp} (e : F_X4_reach v0 v1 v2 h = some (r, hz)) : Ct l yX4_reach M_X4_reach none 0 [.ref v0, .int v1, .int v2] h 0 0 none hz :=
  Ct_of rfl rfl (fun q => by cases q) (Nat.le_of_ble_eq_true rfl) (fun x _ hF => V_pick [0, 1, 2] rfl (r_X4_reach_b0 v0 v1 v2 h e hF))
theorem dX4_sent_0 : decode cX4_sent 0 = .ok (.iconst 3, 1) := by decide +kernel
theorem dX4_sent_1 : decode cX4_sent 1 = .ok (.iload_n 1, 1) := by decide +kernel
theorem dX4_sent_2 : decode cX4_sent 2 = .ok (.imul, 1) := by decide +kernel
theorem dX4_sent_3 : decode cX4_sent 3 = .ok (.istore_n 3, 1) := by decide +kernel
theorem dX4_sent_4 : decode cX4_sent 4 = .ok (.iload_n 0, 1) := by decide +kernel
theorem dX4_sent_5 : decode cX4_sent 5 = .ok (.bipush 7, 2) := by decide +kernel
theorem dX4_sent_7 : decode cX4_sent 7 = .ok (.iload_n 3, 1) := by decide +kernel
theorem dX4_sent_8 : decode cX4_sent 8 = .ok (.ishl, 1) := by decide +kernel
theorem dX4_sent_9 : decode cX4_sent 9 = .ok (.iconst (-1), 1) := by decide +kernel
theorem dX4_sent_10 : decode cX4_sent 10 = .ok (.ixor, 1) := by decide +kernel
theorem dX4_sent_11 : decode cX4_sent 11 = .ok (.iand, 1) := by decide +kernel
theorem dX4_sent_12 : decode cX4_sent 12 = .ok (.iload_n 2, 1) := by decide +kernel
theorem dX4_sent_13 : decode cX4_sent 13 = .ok (.iload_n 3, 1) := by decide +kernel
theorem dX4_sent_14 : decode cX4_sent 14 = .ok (.ishl, 1) := by decide +kernel
theorem dX4_sent_15 : decode cX4_sent 15 = .ok (.ior, 1) := by decide +kernel
theorem dX4_sent_16 : decode cX4_sent 16 = .ok (.ireturn, 1) := by decide +kernel
set_option maxRecDepth 100000 in
def F_X4_sent_b0 (v0 : Int32) (v1 : Int32) (v2 : Int32) (h : Hp) : Option Int32 :=
  some ((v0 &&& (((7 : Int32) <<< (((3 : Int32) * v1) &&& 31)) ^^^ (-1 : Int32))) ||| (v2 <<< (((3 : Int32) * v1) &&& 31)))
set_option maxHeartbeats 4000000 in
set_option maxRecDepth 100000 in
theorem r_X4_sent_b0 (v0 : Int32) (v1 : Int32) (v2 : Int32) (h : Hp) {x : Cx} {r : Int32} (e : F_X4_sent_b0 v0 v1 v2 h = some r) (hF : Fin9 M_X4_sent x (some .int) (some (.int r)) h) : V M_X4_sent x 0 0 [(0, .int v0), (1, .int v1), (2, .int v2)] [] h 0 0 := by
  unfold F_X4_sent_b0 at e
  refine V_iconst (pc := 0) (v := (3 : Int32)) dX4_sent_0 (by decide) ?_
  refine V_iload_n (pc := 1) (i := 1) dX4_sent_1 rfl rfl ?_
  refine V_imul (pc := 2) dX4_sent_2 ?_
  refine V_istore_n (pc := 3) (i := 3) (lv' := [(3, .int ((3 : Int32) * v1)), (0, .int v0), (1, .int v1), (2, .int v2)]) dX4_sent_3 rfl (by decide) rfl ?_
  refine V_iload_n (pc := 4) (i := 0) dX4_sent_4 rfl rfl ?_
  refine V_bipush (pc := 5) (v := (7 : Int32)) dX4_sent_5 (by decide) ?_
  refine V_iload_n (pc := 7) (i := 3) dX4_sent_7 rfl rfl ?_
  refine V_ishl (pc := 8) dX4_sent_8 ?_
  refine V_iconst (pc := 9) (v := (-1 : Int32)) dX4_sent_9 (by decide) ?_
  refine V_ixor (pc := 10) dX4_sent_10 ?_
  refine V_iand (pc := 11) dX4_sent_11 ?_
  refine V_iload_n (pc := 12) (i := 2) dX4_sent_12 rfl rfl ?_
  refine V_iload_n (pc := 13) (i := 3) dX4_sent_13 rfl rfl ?_
  refine V_ishl (pc := 14) dX4_sent_14 ?_
  refine V_ior (pc := 15) dX4_sent_15 ?_
  cases e
  exact V_iret (pc := 16) dX4_sent_16 hF
def F_X4_sent (v0 : Int32) (v1 : Int32) (v2 : Int32) (h : Hp) : Option Int32 := F_X4_sent_b0 v0 v1 v2 h
theorem c_X4_sent {l : Launch} (v0 : Int32) (v1 : Int32) (v2 : Int32) (h : Hp) {r : Int32} (e : F_X4_sent v0 v1 v2 h = some r) : Ct l yX4_sent M_X4_sent (some .int) 0 [.int v0, .int v1, .int v2] h 0 0 (some (.int r)) h :=
  Ct_of rfl rfl (fun q => by cases q) (Nat.le_of_ble_eq_true rfl) (fun x _ hF => V_pick [0, 1, 2] rfl (r_X4_sent_b0 v0 v1 v2 h e hF))
theorem dX4_sendGuests_0 : decode cX4_sendGuests 0 = .ok (.aload_n 0, 1) := by decide +kernel
theorem dX4_sendGuests_1 : decode cX4_sendGuests 1 = .ok (.getfield 9, 3) := by decide +kernel
theorem dX4_sendGuests_4 : decode cX4_sendGuests 4 = .ok (.iload_n 1, 1) := by decide +kernel
theorem dX4_sendGuests_5 : decode cX4_sendGuests 5 = .ok (.iaload, 1) := by decide +kernel
theorem dX4_sendGuests_6 : decode cX4_sendGuests 6 = .ok (.iconst 1, 1) := by decide +kernel
theorem dX4_sendGuests_7 : decode cX4_sendGuests 7 = .ok (.iadd, 1) := by decide +kernel
theorem dX4_sendGuests_8 : decode cX4_sendGuests 8 = .ok (.istore_n 3, 1) := by decide +kernel
theorem dX4_sendGuests_9 : decode cX4_sendGuests 9 = .ok (.iconst 0, 1) := by decide +kernel
theorem dX4_sendGuests_10 : decode cX4_sendGuests 10 = .ok (.istore 4, 2) := by decide +kernel
theorem dX4_sendGuests_12 : decode cX4_sendGuests 12 = .ok (.iload 4, 2) := by decide +kernel
theorem dX4_sendGuests_14 : decode cX4_sendGuests 14 = .ok (.aload_n 2, 1) := by decide +kernel
theorem dX4_sendGuests_15 : decode cX4_sendGuests 15 = .ok (.getfield 31, 3) := by decide +kernel
theorem dX4_sendGuests_18 : decode cX4_sendGuests 18 = .ok (.if_icmp .ge 72, 3) := by decide +kernel
theorem dX4_sendGuests_21 : decode cX4_sendGuests 21 = .ok (.iload_n 1, 1) := by decide +kernel
theorem dX4_sendGuests_22 : decode cX4_sendGuests 22 = .ok (.iload 4, 2) := by decide +kernel
theorem dX4_sendGuests_24 : decode cX4_sendGuests 24 = .ok (.iconst 0, 1) := by decide +kernel
theorem dX4_sendGuests_25 : decode cX4_sendGuests 25 = .ok (.invokestatic 64, 3) := by decide +kernel
theorem dX4_sendGuests_28 : decode cX4_sendGuests 28 = .ok (.istore 5, 2) := by decide +kernel
theorem dX4_sendGuests_30 : decode cX4_sendGuests 30 = .ok (.iconst 1, 1) := by decide +kernel
theorem dX4_sendGuests_31 : decode cX4_sendGuests 31 = .ok (.iconst 3, 1) := by decide +kernel
theorem dX4_sendGuests_32 : decode cX4_sendGuests 32 = .ok (.iload 4, 2) := by decide +kernel
theorem dX4_sendGuests_34 : decode cX4_sendGuests 34 = .ok (.imul, 1) := by decide +kernel
theorem dX4_sendGuests_35 : decode cX4_sendGuests 35 = .ok (.ishl, 1) := by decide +kernel
theorem dX4_sendGuests_36 : decode cX4_sendGuests 36 = .ok (.istore 6, 2) := by decide +kernel
theorem dX4_sendGuests_38 : decode cX4_sendGuests 38 = .ok (.iconst 0, 1) := by decide +kernel
theorem dX4_sendGuests_39 : decode cX4_sendGuests 39 = .ok (.istore 7, 2) := by decide +kernel
theorem dX4_sendGuests_41 : decode cX4_sendGuests 41 = .ok (.iload 7, 2) := by decide +kernel
theorem dX4_sendGuests_43 : decode cX4_sendGuests 43 = .ok (.aload_n 2, 1) := by decide +kernel
theorem dX4_sendGuests_44 : decode cX4_sendGuests 44 = .ok (.getfield 68, 3) := by decide +kernel
theorem dX4_sendGuests_47 : decode cX4_sendGuests 47 = .ok (.if_icmp .ge 37, 3) := by decide +kernel
theorem dX4_sendGuests_50 : decode cX4_sendGuests 50 = .ok (.iload 5, 2) := by decide +kernel
theorem dX4_sendGuests_52 : decode cX4_sendGuests 52 = .ok (.iload 7, 2) := by decide +kernel
theorem dX4_sendGuests_54 : decode cX4_sendGuests 54 = .ok (.iload 6, 2) := by decide +kernel
theorem dX4_sendGuests_56 : decode cX4_sendGuests 56 = .ok (.imul, 1) := by decide +kernel
theorem dX4_sendGuests_57 : decode cX4_sendGuests 57 = .ok (.iadd, 1) := by decide +kernel
theorem dX4_sendGuests_58 : decode cX4_sendGuests 58 = .ok (.istore 8, 2) := by decide +kernel
theorem dX4_sendGuests_60 : decode cX4_sendGuests 60 = .ok (.aload_n 0, 1) := by decide +kernel
theorem dX4_sendGuests_61 : decode cX4_sendGuests 61 = .ok (.getfield 9, 3) := by decide +kernel
theorem dX4_sendGuests_64 : decode cX4_sendGuests 64 = .ok (.iload 8, 2) := by decide +kernel
theorem dX4_sendGuests_66 : decode cX4_sendGuests 66 = .ok (.iaload, 1) := by decide +kernel
theorem dX4_sendGuests_67 : decode cX4_sendGuests 67 = .ok (.iconst (-1), 1) := by decide +kernel
theorem dX4_sendGuests_68 : decode cX4_sendGuests 68 = .ok (.if_icmp .ne 10, 3) := by decide +kernel
theorem dX4_sendGuests_71 : decode cX4_sendGuests 71 = .ok (.aload_n 0, 1) := by decide +kernel
theorem dX4_sendGuests_72 : decode cX4_sendGuests 72 = .ok (.iload 8, 2) := by decide +kernel
theorem dX4_sendGuests_74 : decode cX4_sendGuests 74 = .ok (.iload_n 3, 1) := by decide +kernel
theorem dX4_sendGuests_75 : decode cX4_sendGuests 75 = .ok (.invokevirtual 51, 3) := by decide +kernel
theorem dX4_sendGuests_78 : decode cX4_sendGuests 78 = .ok (.iinc 7 1, 3) := by decide +kernel
theorem dX4_sendGuests_81 : decode cX4_sendGuests 81 = .ok (.goto (-40), 3) := by decide +kernel
theorem dX4_sendGuests_84 : decode cX4_sendGuests 84 = .ok (.iinc 4 1, 3) := by decide +kernel
theorem dX4_sendGuests_87 : decode cX4_sendGuests 87 = .ok (.goto (-75), 3) := by decide +kernel
theorem dX4_sendGuests_90 : decode cX4_sendGuests 90 = .ok (.return_, 1) := by decide +kernel
set_option maxRecDepth 100000 in
def F_X4_sendGuests_b78 (v0 : Nat) (v1 : Int32) (v2 : Nat) (v3 : Int32) (v4 : Int32) (v5 : Int32) (v6 : Int32) (v7 : Int32) (h : Hp) : Option ((Int32 × Hp) ⊕ Hp) :=
  some (.inl (v7 + (1 : Int32), h))
set_option maxHeartbeats 4000000 in
set_option maxRecDepth 100000 in
theorem r_X4_sendGuests_b78 (v0 : Nat) (v1 : Int32) (v2 : Nat) (v3 : Int32) (v4 : Int32) (v5 : Int32) (v6 : Int32) (v7 : Int32) (h : Hp) {x : Cx} {o : ((Int32 × Hp) ⊕ Hp)} (e : F_X4_sendGuests_b78 v0 v1 v2 v3 v4 v5 v6 v7 h = some o) (kI : ∀ z, o = .inl z → V M_X4_sendGuests x 1 41 [(0, .ref v0), (1, .int v1), (2, .ref v2), (3, .int v3), (4, .int v4), (5, .int v5), (6, .int v6), (7, .int z.1)] [] z.2 0 0) (kE84 : ∀ z : Hp, o = .inr z → V M_X4_sendGuests x 1 84 [(0, .ref v0), (1, .int v1), (2, .ref v2), (3, .int v3), (4, .int v4)] [] z 0 0) : V M_X4_sendGuests x 1 78 [(0, .ref v0), (1, .int v1), (2, .ref v2), (3, .int v3), (4, .int v4), (5, .int v5), (6, .int v6), (7, .int v7)] [] h 0 0 := by
  unfold F_X4_sendGuests_b78 at e
  refine V_iinc (pc := 78) (i := 7) (u := v7 + (1 : Int32)) (lv' := [(7, .int (v7 + (1 : Int32))), (0, .ref v0), (1, .int v1), (2, .ref v2), (3, .int v3), (4, .int v4), (5, .int v5), (6, .int v6)]) dX4_sendGuests_78 rfl rfl (by decide) rfl ?_
  refine V_goto (pc := 81) (tgt := 41) dX4_sendGuests_81 (by decide) ?_
  cases e
  exact V_pick [1, 2, 3, 4, 5, 6, 7, 0] rfl (kI (v7 + (1 : Int32), h) rfl)
set_option maxRecDepth 100000 in
def F_X4_sendGuests_l41 (v0 : Nat) (v1 : Int32) (v2 : Nat) (v3 : Int32) (v4 : Int32) (v5 : Int32) (v6 : Int32) (v7 : Int32) (h : Hp) : Option ((Int32 × Hp) ⊕ Hp) :=
  gd (decide (kd h v2 = 2)) <| (if (zI h v2 0) ≤ v7 then some (.inr h) else gd (decide (kd h v0 = 4)) <| ob (zR h v0 0) fun q11 => gd (decide (kd h q11 = 13)) <| gd (ix (v5 + (v7 * v6)) (zl h q11)) <| (if (zI h q11 (v5 + (v7 * v6)).toNatClampNeg) = (-1 : Int32) then ob2 (F_X4_reach v0 (v5 + (v7 * v6)) v3 h) fun _ h17 => F_X4_sendGuests_b78 v0 v1 v2 v3 v4 v5 v6 v7 h17 else F_X4_sendGuests_b78 v0 v1 v2 v3 v4 v5 v6 v7 h))
set_option maxHeartbeats 4000000 in
set_option maxRecDepth 100000 in
theorem r_X4_sendGuests_l41 (v0 : Nat) (v1 : Int32) (v2 : Nat) (v3 : Int32) (v4 : Int32) (v5 : Int32) (v6 : Int32) (v7 : Int32) (h : Hp) {x : Cx} {o : ((Int32 × Hp) ⊕ Hp)} (e : F_X4_sendGuests_l41 v0 v1 v2 v3 v4 v5 v6 v7 h = some o) (kI : ∀ z, o = .inl z → V M_X4_sendGuests x 1 41 [(0, .ref v0), (1, .int v1), (2, .ref v2), (3, .int v3), (4, .int v4), (5, .int v5), (6, .int v6), (7, .int z.1)] [] z.2 0 0) (kE84 : ∀ z : Hp, o = .inr z → V M_X4_sendGuests x 1 84 [(0, .ref v0), (1, .int v1), (2, .ref v2), (3, .int v3), (4, .int v4)] [] z 0 0) : V M_X4_sendGuests x 1 41 [(0, .ref v0), (1, .int v1), (2, .ref v2), (3, .int v3), (4, .int v4), (5, .int v5), (6, .int v6), (7, .int v7)] [] h 0 0 := by
  unfold F_X4_sendGuests_l41 at e
  refine V_iload (pc := 41) (i := 7) dX4_sendGuests_41 rfl ?_
  refine V_aload_n (pc := 43) (i := 2) dX4_sendGuests_43 rfl rfl ?_
  obtain ⟨g9, e⟩ := gd_some e
  refine V_getI (pc := 44) (ci := 2) (k := 0) dX4_sendGuests_44 fl_X4_68 rfl (of_decide_eq_true g9) ?_
  refine V_icmp_ge (pc := 47) (tgt := 84) dX4_sendGuests_47 (by decide) (fun c19 => ?_) (fun c19 => ?_)
  · rw [if_pos c19] at e
    cases e
    exact V_pick [0, 1, 2, 3, 4] rfl (kE84 h rfl)
  · rw [if_neg c19] at e
    refine V_pick [0, 1, 2, 3, 4, 5, 6, 7] rfl ?_
    refine V_iload (pc := 50) (i := 5) dX4_sendGuests_50 rfl ?_
    refine V_iload (pc := 52) (i := 7) dX4_sendGuests_52 rfl ?_
    refine V_iload (pc := 54) (i := 6) dX4_sendGuests_54 rfl ?_
    refine V_imul (pc := 56) dX4_sendGuests_56 ?_
    refine V_iadd (pc := 57) dX4_sendGuests_57 ?_
    refine V_istore (pc := 58) (i := 8) (lv' := [(8, .int (v5 + (v7 * v6))), (0, .ref v0), (1, .int v1), (2, .ref v2), (3, .int v3), (4, .int v4), (5, .int v5), (6, .int v6), (7, .int v7)]) dX4_sendGuests_58 (by decide) rfl ?_
    refine V_aload_n (pc := 60) (i := 0) dX4_sendGuests_60 rfl rfl ?_
    obtain ⟨g10, e⟩ := gd_some e
    obtain ⟨q11, g12, e⟩ := ob_some e
    refine V_getR (pc := 61) (ci := 4) (k := 0) (b := q11) dX4_sendGuests_61 fl_X4_9 rfl (of_decide_eq_true g10) g12 ?_
    refine V_iload (pc := 64) (i := 8) dX4_sendGuests_64 rfl ?_
    obtain ⟨g13, e⟩ := gd_some e
    obtain ⟨g14, e⟩ := gd_some e
    refine V_iald (pc := 66) dX4_sendGuests_66 (of_decide_eq_true g13) (ix_in g14) ?_
    refine V_iconst (pc := 67) (v := (-1 : Int32)) dX4_sendGuests_67 (by decide) ?_
    refine V_icmp_ne (pc := 68) (tgt := 78) dX4_sendGuests_68 (by decide) (fun c18 => ?_) (fun c18 => ?_)
    · rw [if_neg c18] at e
      exact V_pick [1, 2, 3, 4, 5, 6, 7, 8] rfl (r_X4_sendGuests_b78 v0 v1 v2 v3 v4 v5 v6 v7 h e kI kE84)
    · rw [if_pos c18] at e
      refine V_pick [1, 2, 3, 4, 5, 6, 7, 8, 0] rfl ?_
      refine V_aload_n (pc := 71) (i := 0) dX4_sendGuests_71 rfl rfl ?_
      refine V_iload (pc := 72) (i := 8) dX4_sendGuests_72 rfl ?_
      refine V_iload_n (pc := 74) (i := 3) dX4_sendGuests_74 rfl rfl ?_
      obtain ⟨r16, h17, g15, e⟩ := ob2_some e
      refine V_callV (pc := 75) (bc := 0) (bs := 0) (mc := 0) (ms := 0) (st := []) (As := [.int (v5 + (v7 * v6)), .int v3]) (a := v0) (h' := h17) (r := none) dX4_sendGuests_75 ml_X4_51 (ci := 4) rfl (of_decide_eq_true g10) rfl rfl (Nat.le_of_ble_eq_true rfl) (d' := 0) (by decide) (c_X4_reach (l := x.2.1) v0 (v5 + (v7 * v6)) v3 h g15) ?_
      exact V_pick [0, 1, 2, 3, 4, 5, 6, 7] rfl (r_X4_sendGuests_b78 v0 v1 v2 v3 v4 v5 v6 v7 h17 e kI kE84)
set_option maxRecDepth 100000 in
def F_X4_sendGuests_l12 (v0 : Nat) (v1 : Int32) (v2 : Nat) (v3 : Int32) (v4 : Int32) (h : Hp) : Option ((Int32 × Hp) ⊕ Hp) :=
  gd (decide (kd h v2 = 2)) <| (if (zI h v2 5) ≤ v4 then some (.inr h) else ob (F_X4_sent v1 v4 (0 : Int32) h) fun r8 => ob (iter (fun z : Int32 × Hp => F_X4_sendGuests_l41 v0 v1 v2 v3 v4 r8 ((1 : Int32) <<< (((3 : Int32) * v4) &&& 31)) z.1 z.2) FU ((0 : Int32), h)) (fun h20 => some (.inl (v4 + (1 : Int32), h20))))
set_option maxHeartbeats 4000000 in
set_option maxRecDepth 100000 in
theorem r_X4_sendGuests_l12 (v0 : Nat) (v1 : Int32) (v2 : Nat) (v3 : Int32) (v4 : Int32) (h : Hp) {x : Cx} {o : ((Int32 × Hp) ⊕ Hp)} (e : F_X4_sendGuests_l12 v0 v1 v2 v3 v4 h = some o) (kI : ∀ z, o = .inl z → V M_X4_sendGuests x 1 12 [(0, .ref v0), (1, .int v1), (2, .ref v2), (3, .int v3), (4, .int z.1)] [] z.2 0 0) (kE90 : ∀ z : Hp, o = .inr z → V M_X4_sendGuests x 1 90 [] [] z 0 0) : V M_X4_sendGuests x 1 12 [(0, .ref v0), (1, .int v1), (2, .ref v2), (3, .int v3), (4, .int v4)] [] h 0 0 := by
  unfold F_X4_sendGuests_l12 at e
  refine V_iload (pc := 12) (i := 4) dX4_sendGuests_12 rfl ?_
  refine V_aload_n (pc := 14) (i := 2) dX4_sendGuests_14 rfl rfl ?_
  obtain ⟨g6, e⟩ := gd_some e
  refine V_getI (pc := 15) (ci := 2) (k := 5) dX4_sendGuests_15 fl_X4_31 rfl (of_decide_eq_true g6) ?_
  refine V_icmp_ge (pc := 18) (tgt := 90) dX4_sendGuests_18 (by decide) (fun c23 => ?_) (fun c23 => ?_)
  · rw [if_pos c23] at e
    cases e
    exact V_pick [] rfl (kE90 h rfl)
  · rw [if_neg c23] at e
    refine V_pick [0, 1, 2, 3, 4] rfl ?_
    refine V_iload_n (pc := 21) (i := 1) dX4_sendGuests_21 rfl rfl ?_
    refine V_iload (pc := 22) (i := 4) dX4_sendGuests_22 rfl ?_
    refine V_iconst (pc := 24) (v := (0 : Int32)) dX4_sendGuests_24 (by decide) ?_
    obtain ⟨r8, g7, e⟩ := ob_some e
    refine V_callS (pc := 25) (bc := 0) (bs := 0) (mc := 0) (ms := 0) (st := []) (As := [.int v1, .int v4, .int (0 : Int32)]) (h' := h) (r := some (.int r8)) dX4_sendGuests_25 ml_X4_64 rfl rfl (Nat.le_of_ble_eq_true rfl) (d' := 0) (by decide) (c_X4_sent (l := x.2.1) v1 v4 (0 : Int32) h g7) ?_
    refine V_istore (pc := 28) (i := 5) (lv' := [(5, .int r8), (0, .ref v0), (1, .int v1), (2, .ref v2), (3, .int v3), (4, .int v4)]) dX4_sendGuests_28 (by decide) rfl ?_
    refine V_iconst (pc := 30) (v := (1 : Int32)) dX4_sendGuests_30 (by decide) ?_
    refine V_iconst (pc := 31) (v := (3 : Int32)) dX4_sendGuests_31 (by decide) ?_
    refine V_iload (pc := 32) (i := 4) dX4_sendGuests_32 rfl ?_
    refine V_imul (pc := 34) dX4_sendGuests_34 ?_
    refine V_ishl (pc := 35) dX4_sendGuests_35 ?_
    refine V_istore (pc := 36) (i := 6) (lv' := [(6, .int ((1 : Int32) <<< (((3 : Int32) * v4) &&& 31))), (5, .int r8), (0, .ref v0), (1, .int v1), (2, .ref v2), (3, .int v3), (4, .int v4)]) dX4_sendGuests_36 (by decide) rfl ?_
    refine V_iconst (pc := 38) (v := (0 : Int32)) dX4_sendGuests_38 (by decide) ?_
    refine V_istore (pc := 39) (i := 7) (lv' := [(7, .int (0 : Int32)), (6, .int ((1 : Int32) <<< (((3 : Int32) * v4) &&& 31))), (5, .int r8), (0, .ref v0), (1, .int v1), (2, .ref v2), (3, .int v3), (4, .int v4)]) dX4_sendGuests_39 (by decide) rfl ?_
    refine V_pick [3, 4, 5, 6, 7, 2, 1, 0] rfl ?_
    obtain ⟨y21, g22, e⟩ := ob_some e
    refine iter_V (P := fun z : Int32 × Hp => V M_X4_sendGuests x 1 41 [(0, .ref v0), (1, .int v1), (2, .ref v2), (3, .int v3), (4, .int v4), (5, .int r8), (6, .int ((1 : Int32) <<< (((3 : Int32) * v4) &&& 31))), (7, .int z.1)] [] z.2 0 0) (E := fun z : Hp => V M_X4_sendGuests x 1 84 [(0, .ref v0), (1, .int v1), (2, .ref v2), (3, .int v3), (4, .int v4)] [] z 0 0) (fun z o e9 k1 k2 => r_X4_sendGuests_l41 v0 v1 v2 v3 v4 r8 ((1 : Int32) <<< (((3 : Int32) * v4) &&& 31)) z.1 z.2 e9 (fun z hz9 => k1 z hz9) (fun z hz9 => k2 _ hz9)) _ _ _ g22 ?_
    clear g22
    obtain ⟨h20, rfl⟩ : ∃ q, q = y21 := ⟨_, rfl⟩
    replace e : (some (.inl (v4 + (1 : Int32), h20))) = some o := e
    show V M_X4_sendGuests x 1 84 [(0, .ref v0), (1, .int v1), (2, .ref v2), (3, .int v3), (4, .int v4)] [] h20 0 0
    refine V_iinc (pc := 84) (i := 4) (u := v4 + (1 : Int32)) (lv' := [(4, .int (v4 + (1 : Int32))), (0, .ref v0), (1, .int v1), (2, .ref v2), (3, .int v3)]) dX4_sendGuests_84 rfl rfl (by decide) rfl ?_
    refine V_goto (pc := 87) (tgt := 12) dX4_sendGuests_87 (by decide) ?_
    cases e
    exact V_pick [1, 2, 3, 4, 0] rfl (kI (v4 + (1 : Int32), h20) rfl)
set_option maxRecDepth 100000 in
def F_X4_sendGuests_b0 (v0 : Nat) (v1 : Int32) (v2 : Nat) (h : Hp) : Option (Unit × Hp) :=
  gd (decide (kd h v0 = 4)) <| ob (zR h v0 0) fun q2 => gd (decide (kd h q2 = 13)) <| gd (ix v1 (zl h q2)) <| ob (iter (fun z : Int32 × Hp => F_X4_sendGuests_l12 v0 v1 v2 ((zI h q2 (v1).toNatClampNeg) + (1 : Int32)) z.1 z.2) FU ((0 : Int32), h)) (fun h24 => some ((), h24))
set_option maxHeartbeats 4000000 in
set_option maxRecDepth 100000 in
theorem r_X4_sendGuests_b0 (v0 : Nat) (v1 : Int32) (v2 : Nat) (h : Hp) {x : Cx} {r : Unit} {hz : Hp} (e : F_X4_sendGuests_b0 v0 v1 v2 h = some (r, hz)) (hF : Fin9 M_X4_sendGuests x none none hz) : V M_X4_sendGuests x 1 0 [(0, .ref v0), (1, .int v1), (2, .ref v2)] [] h 0 0 := by
  unfold F_X4_sendGuests_b0 at e
  refine V_aload_n (pc := 0) (i := 0) dX4_sendGuests_0 rfl rfl ?_
  obtain ⟨g1, e⟩ := gd_some e
  obtain ⟨q2, g3, e⟩ := ob_some e
  refine V_getR (pc := 1) (ci := 4) (k := 0) (b := q2) dX4_sendGuests_1 fl_X4_9 rfl (of_decide_eq_true g1) g3 ?_
  refine V_iload_n (pc := 4) (i := 1) dX4_sendGuests_4 rfl rfl ?_
  obtain ⟨g4, e⟩ := gd_some e
  obtain ⟨g5, e⟩ := gd_some e
  refine V_iald (pc := 5) dX4_sendGuests_5 (of_decide_eq_true g4) (ix_in g5) ?_
  refine V_iconst (pc := 6) (v := (1 : Int32)) dX4_sendGuests_6 (by decide) ?_
  refine V_iadd (pc := 7) dX4_sendGuests_7 ?_
  refine V_istore_n (pc := 8) (i := 3) (lv' := [(3, .int ((zI h q2 (v1).toNatClampNeg) + (1 : Int32))), (0, .ref v0), (1, .int v1), (2, .ref v2)]) dX4_sendGuests_8 rfl (by decide) rfl ?_
  refine V_iconst (pc := 9) (v := (0 : Int32)) dX4_sendGuests_9 (by decide) ?_
  refine V_istore (pc := 10) (i := 4) (lv' := [(4, .int (0 : Int32)), (3, .int ((zI h q2 (v1).toNatClampNeg) + (1 : Int32))), (0, .ref v0), (1, .int v1), (2, .ref v2)]) dX4_sendGuests_10 (by decide) rfl ?_
  refine V_pick [2, 3, 4, 1, 0] rfl ?_
  obtain ⟨y25, g26, e⟩ := ob_some e
  refine iter_V (P := fun z : Int32 × Hp => V M_X4_sendGuests x 1 12 [(0, .ref v0), (1, .int v1), (2, .ref v2), (3, .int ((zI h q2 (v1).toNatClampNeg) + (1 : Int32))), (4, .int z.1)] [] z.2 0 0) (E := fun z : Hp => V M_X4_sendGuests x 1 90 [] [] z 0 0) (fun z o e9 k1 k2 => r_X4_sendGuests_l12 v0 v1 v2 ((zI h q2 (v1).toNatClampNeg) + (1 : Int32)) z.1 z.2 e9 (fun z hz9 => k1 z hz9) (fun z hz9 => k2 _ hz9)) _ _ _ g26 ?_
  clear g26
  obtain ⟨h24, rfl⟩ : ∃ q, q = y25 := ⟨_, rfl⟩
  replace e : (some ((), h24)) = some (r, hz) := e
  show V M_X4_sendGuests x 1 90 [] [] h24 0 0
  cases e
  exact V_vret (pc := 90) dX4_sendGuests_90 hF
def F_X4_sendGuests (v0 : Nat) (v1 : Int32) (v2 : Nat) (h : Hp) : Option (Unit × Hp) := F_X4_sendGuests_b0 v0 v1 v2 h
theorem c_X4_sendGuests {l : Launch} (v0 : Nat) (v1 : Int32) (v2 : Nat) (h : Hp) {r : Unit} {hz : Hp} (e : F_X4_sendGuests v0 v1 v2 h = some (r, hz)) : Ct l yX4_sendGuests M_X4_sendGuests none 1 [.ref v0, .int v1, .ref v2] h 0 0 none hz :=
  Ct_of rfl rfl (fun q => by cases q) (Nat.le_of_ble_eq_true rfl) (fun x _ hF => V_pick [0, 1, 2] rfl (r_X4_sendGuests_b0 v0 v1 v2 h e hF))
theorem dX4_sendStove_0 : decode cX4_sendStove 0 = .ok (.iload_n 1, 1) := by decide +kernel
theorem dX4_sendStove_1 : decode cX4_sendStove 1 = .ok (.iload_n 2, 1) := by decide +kernel
theorem dX4_sendStove_2 : decode cX4_sendStove 2 = .ok (.ishr, 1) := by decide +kernel
theorem dX4_sendStove_3 : decode cX4_sendStove 3 = .ok (.istore 4, 2) := by decide +kernel
theorem dX4_sendStove_5 : decode cX4_sendStove 5 = .ok (.iload_n 1, 1) := by decide +kernel
theorem dX4_sendStove_6 : decode cX4_sendStove 6 = .ok (.iload 4, 2) := by decide +kernel
theorem dX4_sendStove_8 : decode cX4_sendStove 8 = .ok (.iload_n 2, 1) := by decide +kernel
theorem dX4_sendStove_9 : decode cX4_sendStove 9 = .ok (.ishl, 1) := by decide +kernel
theorem dX4_sendStove_10 : decode cX4_sendStove 10 = .ok (.isub, 1) := by decide +kernel
theorem dX4_sendStove_11 : decode cX4_sendStove 11 = .ok (.istore 5, 2) := by decide +kernel
theorem dX4_sendStove_13 : decode cX4_sendStove 13 = .ok (.iconst 0, 1) := by decide +kernel
theorem dX4_sendStove_14 : decode cX4_sendStove 14 = .ok (.istore 6, 2) := by decide +kernel
theorem dX4_sendStove_16 : decode cX4_sendStove 16 = .ok (.iload 6, 2) := by decide +kernel
theorem dX4_sendStove_18 : decode cX4_sendStove 18 = .ok (.aload_n 3, 1) := by decide +kernel
theorem dX4_sendStove_19 : decode cX4_sendStove 19 = .ok (.getfield 68, 3) := by decide +kernel
theorem dX4_sendStove_22 : decode cX4_sendStove 22 = .ok (.if_icmp .ge 39, 3) := by decide +kernel
theorem dX4_sendStove_25 : decode cX4_sendStove 25 = .ok (.aload_n 3, 1) := by decide +kernel
theorem dX4_sendStove_26 : decode cX4_sendStove 26 = .ok (.iload 4, 2) := by decide +kernel
theorem dX4_sendStove_28 : decode cX4_sendStove 28 = .ok (.iload 6, 2) := by decide +kernel
theorem dX4_sendStove_30 : decode cX4_sendStove 30 = .ok (.invokevirtual 90, 3) := by decide +kernel
theorem dX4_sendStove_33 : decode cX4_sendStove 33 = .ok (.ifCond .eq 22, 3) := by decide +kernel
theorem dX4_sendStove_36 : decode cX4_sendStove 36 = .ok (.aload_n 0, 1) := by decide +kernel
theorem dX4_sendStove_37 : decode cX4_sendStove 37 = .ok (.iload 5, 2) := by decide +kernel
theorem dX4_sendStove_39 : decode cX4_sendStove 39 = .ok (.iload 6, 2) := by decide +kernel
theorem dX4_sendStove_41 : decode cX4_sendStove 41 = .ok (.iload_n 2, 1) := by decide +kernel
theorem dX4_sendStove_42 : decode cX4_sendStove 42 = .ok (.ishl, 1) := by decide +kernel
theorem dX4_sendStove_43 : decode cX4_sendStove 43 = .ok (.iadd, 1) := by decide +kernel
theorem dX4_sendStove_44 : decode cX4_sendStove 44 = .ok (.aload_n 0, 1) := by decide +kernel
theorem dX4_sendStove_45 : decode cX4_sendStove 45 = .ok (.getfield 9, 3) := by decide +kernel
theorem dX4_sendStove_48 : decode cX4_sendStove 48 = .ok (.iload_n 1, 1) := by decide +kernel
theorem dX4_sendStove_49 : decode cX4_sendStove 49 = .ok (.iaload, 1) := by decide +kernel
theorem dX4_sendStove_50 : decode cX4_sendStove 50 = .ok (.iconst 1, 1) := by decide +kernel
theorem dX4_sendStove_51 : decode cX4_sendStove 51 = .ok (.iadd, 1) := by decide +kernel
theorem dX4_sendStove_52 : decode cX4_sendStove 52 = .ok (.invokevirtual 51, 3) := by decide +kernel
theorem dX4_sendStove_55 : decode cX4_sendStove 55 = .ok (.iinc 6 1, 3) := by decide +kernel
theorem dX4_sendStove_58 : decode cX4_sendStove 58 = .ok (.goto (-42), 3) := by decide +kernel
theorem dX4_sendStove_61 : decode cX4_sendStove 61 = .ok (.return_, 1) := by decide +kernel
set_option maxRecDepth 100000 in
def F_X4_sendStove_b55 (v0 : Nat) (v1 : Int32) (v2 : Int32) (v3 : Nat) (v4 : Int32) (v5 : Int32) (v6 : Int32) (h : Hp) : Option ((Int32 × Hp) ⊕ Hp) :=
  some (.inl (v6 + (1 : Int32), h))
set_option maxHeartbeats 4000000 in
set_option maxRecDepth 100000 in
theorem r_X4_sendStove_b55 (v0 : Nat) (v1 : Int32) (v2 : Int32) (v3 : Nat) (v4 : Int32) (v5 : Int32) (v6 : Int32) (h : Hp) {x : Cx} {o : ((Int32 × Hp) ⊕ Hp)} (e : F_X4_sendStove_b55 v0 v1 v2 v3 v4 v5 v6 h = some o) (kI : ∀ z, o = .inl z → V M_X4_sendStove x 2 16 [(0, .ref v0), (1, .int v1), (2, .int v2), (3, .ref v3), (4, .int v4), (5, .int v5), (6, .int z.1)] [] z.2 0 0) (kE61 : ∀ z : Hp, o = .inr z → V M_X4_sendStove x 2 61 [] [] z 0 0) : V M_X4_sendStove x 2 55 [(0, .ref v0), (1, .int v1), (2, .int v2), (3, .ref v3), (4, .int v4), (5, .int v5), (6, .int v6)] [] h 0 0 := by
  unfold F_X4_sendStove_b55 at e
  refine V_iinc (pc := 55) (i := 6) (u := v6 + (1 : Int32)) (lv' := [(6, .int (v6 + (1 : Int32))), (0, .ref v0), (1, .int v1), (2, .int v2), (3, .ref v3), (4, .int v4), (5, .int v5)]) dX4_sendStove_55 rfl rfl (by decide) rfl ?_
  refine V_goto (pc := 58) (tgt := 16) dX4_sendStove_58 (by decide) ?_
  cases e
  exact V_pick [1, 2, 3, 4, 5, 6, 0] rfl (kI (v6 + (1 : Int32), h) rfl)
set_option maxRecDepth 100000 in
def F_X4_sendStove_l16 (v0 : Nat) (v1 : Int32) (v2 : Int32) (v3 : Nat) (v4 : Int32) (v5 : Int32) (v6 : Int32) (h : Hp) : Option ((Int32 × Hp) ⊕ Hp) :=
  gd (decide (kd h v3 = 2)) <| (if (zI h v3 0) ≤ v6 then some (.inr h) else ob (F_X2_isOneStep v3 v4 v6 h) fun r3 => (if r3 = 0 then F_X4_sendStove_b55 v0 v1 v2 v3 v4 v5 v6 h else gd (decide (kd h v0 = 4)) <| ob (zR h v0 0) fun q5 => gd (decide (kd h q5 = 13)) <| gd (ix v1 (zl h q5)) <| ob2 (F_X4_reach v0 (v5 + (v6 <<< (v2 &&& 31))) ((zI h q5 (v1).toNatClampNeg) + (1 : Int32)) h) fun _ h11 => F_X4_sendStove_b55 v0 v1 v2 v3 v4 v5 v6 h11))
set_option maxHeartbeats 4000000 in
set_option maxRecDepth 100000 in
theorem r_X4_sendStove_l16 (v0 : Nat) (v1 : Int32) (v2 : Int32) (v3 : Nat) (v4 : Int32) (v5 : Int32) (v6 : Int32) (h : Hp) {x : Cx} {o : ((Int32 × Hp) ⊕ Hp)} (e : F_X4_sendStove_l16 v0 v1 v2 v3 v4 v5 v6 h = some o) (kI : ∀ z, o = .inl z → V M_X4_sendStove x 2 16 [(0, .ref v0), (1, .int v1), (2, .int v2), (3, .ref v3), (4, .int v4), (5, .int v5), (6, .int z.1)] [] z.2 0 0) (kE61 : ∀ z : Hp, o = .inr z → V M_X4_sendStove x 2 61 [] [] z 0 0) : V M_X4_sendStove x 2 16 [(0, .ref v0), (1, .int v1), (2, .int v2), (3, .ref v3), (4, .int v4), (5, .int v5), (6, .int v6)] [] h 0 0 := by
  unfold F_X4_sendStove_l16 at e
  refine V_iload (pc := 16) (i := 6) dX4_sendStove_16 rfl ?_
  refine V_aload_n (pc := 18) (i := 3) dX4_sendStove_18 rfl rfl ?_
  obtain ⟨g1, e⟩ := gd_some e
  refine V_getI (pc := 19) (ci := 2) (k := 0) dX4_sendStove_19 fl_X4_68 rfl (of_decide_eq_true g1) ?_
  refine V_icmp_ge (pc := 22) (tgt := 61) dX4_sendStove_22 (by decide) (fun c13 => ?_) (fun c13 => ?_)
  · rw [if_pos c13] at e
    cases e
    exact V_pick [] rfl (kE61 h rfl)
  · rw [if_neg c13] at e
    refine V_pick [0, 1, 2, 3, 4, 5, 6] rfl ?_
    refine V_aload_n (pc := 25) (i := 3) dX4_sendStove_25 rfl rfl ?_
    refine V_iload (pc := 26) (i := 4) dX4_sendStove_26 rfl ?_
    refine V_iload (pc := 28) (i := 6) dX4_sendStove_28 rfl ?_
    obtain ⟨r3, g2, e⟩ := ob_some e
    refine V_callV (pc := 30) (bc := 0) (bs := 0) (mc := 0) (ms := 0) (st := []) (As := [.int v4, .int v6]) (a := v3) (h' := h) (r := some (.int r3)) dX4_sendStove_30 ml_X4_90 (ci := 2) rfl (of_decide_eq_true g1) rfl rfl (Nat.le_of_ble_eq_true rfl) (d' := 1) (by decide) (c_X2_isOneStep (l := x.2.1) v3 v4 v6 h g2) ?_
    refine V_if_eq (pc := 33) (tgt := 55) dX4_sendStove_33 (by decide) (fun c12 => ?_) (fun c12 => ?_)
    · rw [if_pos c12] at e
      exact V_pick [0, 1, 2, 3, 4, 5, 6] rfl (r_X4_sendStove_b55 v0 v1 v2 v3 v4 v5 v6 h e kI kE61)
    · rw [if_neg c12] at e
      refine V_pick [0, 1, 2, 3, 4, 5, 6] rfl ?_
      refine V_aload_n (pc := 36) (i := 0) dX4_sendStove_36 rfl rfl ?_
      refine V_iload (pc := 37) (i := 5) dX4_sendStove_37 rfl ?_
      refine V_iload (pc := 39) (i := 6) dX4_sendStove_39 rfl ?_
      refine V_iload_n (pc := 41) (i := 2) dX4_sendStove_41 rfl rfl ?_
      refine V_ishl (pc := 42) dX4_sendStove_42 ?_
      refine V_iadd (pc := 43) dX4_sendStove_43 ?_
      refine V_aload_n (pc := 44) (i := 0) dX4_sendStove_44 rfl rfl ?_
      obtain ⟨g4, e⟩ := gd_some e
      obtain ⟨q5, g6, e⟩ := ob_some e
      refine V_getR (pc := 45) (ci := 4) (k := 0) (b := q5) dX4_sendStove_45 fl_X4_9 rfl (of_decide_eq_true g4) g6 ?_
      refine V_iload_n (pc := 48) (i := 1) dX4_sendStove_48 rfl rfl ?_
      obtain ⟨g7, e⟩ := gd_some e
      obtain ⟨g8, e⟩ := gd_some e
      refine V_iald (pc := 49) dX4_sendStove_49 (of_decide_eq_true g7) (ix_in g8) ?_
      refine V_iconst (pc := 50) (v := (1 : Int32)) dX4_sendStove_50 (by decide) ?_
      refine V_iadd (pc := 51) dX4_sendStove_51 ?_
      obtain ⟨r10, h11, g9, e⟩ := ob2_some e
      refine V_callV (pc := 52) (bc := 0) (bs := 0) (mc := 0) (ms := 0) (st := []) (As := [.int (v5 + (v6 <<< (v2 &&& 31))), .int ((zI h q5 (v1).toNatClampNeg) + (1 : Int32))]) (a := v0) (h' := h11) (r := none) dX4_sendStove_52 ml_X4_51 (ci := 4) rfl (of_decide_eq_true g4) rfl rfl (Nat.le_of_ble_eq_true rfl) (d' := 0) (by decide) (c_X4_reach (l := x.2.1) v0 (v5 + (v6 <<< (v2 &&& 31))) ((zI h q5 (v1).toNatClampNeg) + (1 : Int32)) h g9) ?_
      exact V_pick [0, 1, 2, 3, 4, 5, 6] rfl (r_X4_sendStove_b55 v0 v1 v2 v3 v4 v5 v6 h11 e kI kE61)
set_option maxRecDepth 100000 in
def F_X4_sendStove_b0 (v0 : Nat) (v1 : Int32) (v2 : Int32) (v3 : Nat) (h : Hp) : Option (Unit × Hp) :=
  ob (iter (fun z : Int32 × Hp => F_X4_sendStove_l16 v0 v1 v2 v3 (v1 >>> (v2 &&& 31)) (v1 - ((v1 >>> (v2 &&& 31)) <<< (v2 &&& 31))) z.1 z.2) FU ((0 : Int32), h)) (fun h14 => some ((), h14))
set_option maxHeartbeats 4000000 in
set_option maxRecDepth 100000 in
theorem r_X4_sendStove_b0 (v0 : Nat) (v1 : Int32) (v2 : Int32) (v3 : Nat) (h : Hp) {x : Cx} {r : Unit} {hz : Hp} (e : F_X4_sendStove_b0 v0 v1 v2 v3 h = some (r, hz)) (hF : Fin9 M_X4_sendStove x none none hz) : V M_X4_sendStove x 2 0 [(0, .ref v0), (1, .int v1), (2, .int v2), (3, .ref v3)] [] h 0 0 := by
  unfold F_X4_sendStove_b0 at e
  refine V_iload_n (pc := 0) (i := 1) dX4_sendStove_0 rfl rfl ?_
  refine V_iload_n (pc := 1) (i := 2) dX4_sendStove_1 rfl rfl ?_
  refine V_ishr (pc := 2) dX4_sendStove_2 ?_
  refine V_istore (pc := 3) (i := 4) (lv' := [(4, .int (v1 >>> (v2 &&& 31))), (0, .ref v0), (1, .int v1), (2, .int v2), (3, .ref v3)]) dX4_sendStove_3 (by decide) rfl ?_
  refine V_iload_n (pc := 5) (i := 1) dX4_sendStove_5 rfl rfl ?_
  refine V_iload (pc := 6) (i := 4) dX4_sendStove_6 rfl ?_
  refine V_iload_n (pc := 8) (i := 2) dX4_sendStove_8 rfl rfl ?_
  refine V_ishl (pc := 9) dX4_sendStove_9 ?_
  refine V_isub (pc := 10) dX4_sendStove_10 ?_
  refine V_istore (pc := 11) (i := 5) (lv' := [(5, .int (v1 - ((v1 >>> (v2 &&& 31)) <<< (v2 &&& 31)))), (4, .int (v1 >>> (v2 &&& 31))), (0, .ref v0), (1, .int v1), (2, .int v2), (3, .ref v3)]) dX4_sendStove_11 (by decide) rfl ?_
  refine V_iconst (pc := 13) (v := (0 : Int32)) dX4_sendStove_13 (by decide) ?_
  refine V_istore (pc := 14) (i := 6) (lv' := [(6, .int (0 : Int32)), (5, .int (v1 - ((v1 >>> (v2 &&& 31)) <<< (v2 &&& 31)))), (4, .int (v1 >>> (v2 &&& 31))), (0, .ref v0), (1, .int v1), (2, .int v2), (3, .ref v3)]) dX4_sendStove_14 (by decide) rfl ?_
  refine V_pick [3, 4, 5, 6, 2, 1, 0] rfl ?_
  obtain ⟨y15, g16, e⟩ := ob_some e
  refine iter_V (P := fun z : Int32 × Hp => V M_X4_sendStove x 2 16 [(0, .ref v0), (1, .int v1), (2, .int v2), (3, .ref v3), (4, .int (v1 >>> (v2 &&& 31))), (5, .int (v1 - ((v1 >>> (v2 &&& 31)) <<< (v2 &&& 31)))), (6, .int z.1)] [] z.2 0 0) (E := fun z : Hp => V M_X4_sendStove x 2 61 [] [] z 0 0) (fun z o e9 k1 k2 => r_X4_sendStove_l16 v0 v1 v2 v3 (v1 >>> (v2 &&& 31)) (v1 - ((v1 >>> (v2 &&& 31)) <<< (v2 &&& 31))) z.1 z.2 e9 (fun z hz9 => k1 z hz9) (fun z hz9 => k2 _ hz9)) _ _ _ g16 ?_
  clear g16
  obtain ⟨h14, rfl⟩ : ∃ q, q = y15 := ⟨_, rfl⟩
  replace e : (some ((), h14)) = some (r, hz) := e
  show V M_X4_sendStove x 2 61 [] [] h14 0 0
  cases e
  exact V_vret (pc := 61) dX4_sendStove_61 hF
def F_X4_sendStove (v0 : Nat) (v1 : Int32) (v2 : Int32) (v3 : Nat) (h : Hp) : Option (Unit × Hp) := F_X4_sendStove_b0 v0 v1 v2 v3 h
theorem c_X4_sendStove {l : Launch} (v0 : Nat) (v1 : Int32) (v2 : Int32) (v3 : Nat) (h : Hp) {r : Unit} {hz : Hp} (e : F_X4_sendStove v0 v1 v2 v3 h = some (r, hz)) : Ct l yX4_sendStove M_X4_sendStove none 2 [.ref v0, .int v1, .int v2, .ref v3] h 0 0 none hz :=
  Ct_of rfl rfl (fun q => by cases q) (Nat.le_of_ble_eq_true rfl) (fun x _ hF => V_pick [0, 1, 2, 3] rfl (r_X4_sendStove_b0 v0 v1 v2 v3 h e hF))
theorem dX5_init_0 : decode cX5_init 0 = .ok (.aload_n 0, 1) := by decide +kernel
theorem dX5_init_1 : decode cX5_init 1 = .ok (.invokespecial 3, 3) := by decide +kernel
theorem dX5_init_4 : decode cX5_init 4 = .ok (.aload_n 0, 1) := by decide +kernel
theorem dX5_init_5 : decode cX5_init 5 = .ok (.sipush 1280, 3) := by decide +kernel
theorem dX5_init_8 : decode cX5_init 8 = .ok (.newarray .int, 2) := by decide +kernel
theorem dX5_init_10 : decode cX5_init 10 = .ok (.putfield 11, 3) := by decide +kernel
theorem dX5_init_13 : decode cX5_init 13 = .ok (.aload_n 0, 1) := by decide +kernel
theorem dX5_init_14 : decode cX5_init 14 = .ok (.iconst (-1), 1) := by decide +kernel
theorem dX5_init_15 : decode cX5_init 15 = .ok (.putfield 15, 3) := by decide +kernel
theorem dX5_init_18 : decode cX5_init 18 = .ok (.aload_n 0, 1) := by decide +kernel
theorem dX5_init_19 : decode cX5_init 19 = .ok (.iconst (-1), 1) := by decide +kernel
theorem dX5_init_20 : decode cX5_init 20 = .ok (.putfield 19, 3) := by decide +kernel
theorem dX5_init_23 : decode cX5_init 23 = .ok (.aload_n 0, 1) := by decide +kernel
theorem dX5_init_24 : decode cX5_init 24 = .ok (.iconst 0, 1) := by decide +kernel
theorem dX5_init_25 : decode cX5_init 25 = .ok (.putfield 22, 3) := by decide +kernel
theorem dX5_init_28 : decode cX5_init 28 = .ok (.return_, 1) := by decide +kernel
set_option maxRecDepth 100000 in
def F_X5_init_b0 (v0 : Nat) (h : Hp) : Option (Unit × Hp × Nat × Nat) :=
  ob (some (zN h)) fun q1 => ac 1 ((1280 : Int32)).toNatClampNeg <| gd (decide (kd (alloc h 13 ((1280 : Int32)).toNatClampNeg) v0 = 5)) <| ob (some (setI (setI (setI (setR (alloc h 13 ((1280 : Int32)).toNatClampNeg) v0 0 (some q1)) v0 1 (-1 : Int32)) v0 2 (-1 : Int32)) v0 3 (0 : Int32))) fun h6 => some ((), h6, 0, 0)
set_option maxHeartbeats 4000000 in
set_option maxRecDepth 100000 in
theorem r_X5_init_b0 (v0 : Nat) (h : Hp) {x : Cx} {r : Unit} {hz : Hp} {c9 s9 : Nat} (e : F_X5_init_b0 v0 h = some (r, hz, c9, s9)) (hF : Fin9 M_X5_init x none none hz) : V M_X5_init x 1 0 [(0, .ref v0)] [] h c9 s9 := by
  unfold F_X5_init_b0 at e
  refine V_aload_n (pc := 0) (i := 0) dX5_init_0 rfl rfl ?_
  refine V_objI (pc := 1) dX5_init_1 wo_X5_3 (by decide) (Nat.le_of_ble_eq_true rfl) ?_
  refine V_aload_n (pc := 4) (i := 0) dX5_init_4 rfl rfl ?_
  refine V_sipush (pc := 5) (v := (1280 : Int32)) dX5_init_5 (by decide) ?_
  replace e := ob_some e
  obtain ⟨q1, g2, e⟩ := e
  replace e := ac_some e
  obtain ⟨n3, n4, e, hc9, hs9⟩ := e
  rw [hc9, hs9]
  clear hc9 hs9
  refine V_newIQ (pc := 8) (n := (1280 : Int32)) dX5_init_8 wa_int (by decide) (by decide) (q := q1) (bc := n3) (bs := n4) (Option.some.inj g2) ?_
  replace e := gd_some e
  obtain ⟨g5, e⟩ := e
  refine V_putRF (pc := 10) (ci := 5) (k := 0) dX5_init_10 fp_X5_11 rfl (of_decide_eq_true g5) (fun _ => ⟨rfl, rfl⟩) rfl ?_
  refine V_aload_n (pc := 13) (i := 0) dX5_init_13 rfl rfl ?_
  refine V_iconst (pc := 14) (v := (-1 : Int32)) dX5_init_14 (by decide) ?_
  refine V_putI (pc := 15) (ci := 5) (k := 1) dX5_init_15 fp_X5_15 rfl (kd_sR (of_decide_eq_true g5)) ?_
  refine V_aload_n (pc := 18) (i := 0) dX5_init_18 rfl rfl ?_
  refine V_iconst (pc := 19) (v := (-1 : Int32)) dX5_init_19 (by decide) ?_
  refine V_putI (pc := 20) (ci := 5) (k := 2) dX5_init_20 fp_X5_19 rfl (kd_sI (kd_sR (of_decide_eq_true g5))) ?_
  refine V_aload_n (pc := 23) (i := 0) dX5_init_23 rfl rfl ?_
  refine V_iconst (pc := 24) (v := (0 : Int32)) dX5_init_24 (by decide) ?_
  refine V_putI (pc := 25) (ci := 5) (k := 3) dX5_init_25 fp_X5_22 rfl (kd_sI (kd_sI (kd_sR (of_decide_eq_true g5)))) ?_
  replace e := ob_some e
  obtain ⟨h6, g7, e⟩ := e
  refine V_hp (Option.some.inj g7) ?_
  have k8 : kd h6 q1 = 13 := kd_eq (h := (setI (setI (setI (setR (alloc h 13 ((1280 : Int32)).toNatClampNeg) v0 0 (some q1)) v0 1 (-1 : Int32)) v0 2 (-1 : Int32)) v0 3 (0 : Int32))) (Option.some.inj g7) (kd_sI (kd_sI (kd_sI (kd_sR (kd_newq (Option.some.inj g2))))))
  have k9 : kd h6 v0 = 5 := kd_eq (h := (setI (setI (setI (setR (alloc h 13 ((1280 : Int32)).toNatClampNeg) v0 0 (some q1)) v0 1 (-1 : Int32)) v0 2 (-1 : Int32)) v0 3 (0 : Int32))) (Option.some.inj g7) (kd_sI (kd_sI (kd_sI (kd_sR (of_decide_eq_true g5)))))
  cases e
  exact V_vret (pc := 28) dX5_init_28 hF
def F_X5_init (v0 : Nat) (h : Hp) : Option (Unit × Hp × Nat × Nat) := F_X5_init_b0 v0 h
theorem c_X5_init {l : Launch} (v0 : Nat) (h : Hp) {r : Unit} {hz : Hp} {c9 s9 : Nat} (e : F_X5_init v0 h = some (r, hz, c9, s9)) : Ct l yX5_init M_X5_init none 1 [.ref v0] h c9 s9 none hz :=
  Ct_of rfl rfl (fun _ => rfl) (Nat.le_of_ble_eq_true rfl) (fun x _ hF => V_pick [0] rfl (r_X5_init_b0 v0 h e hF))
theorem dX6_init_0 : decode cX6_init 0 = .ok (.aload_n 0, 1) := by decide +kernel
theorem dX6_init_1 : decode cX6_init 1 = .ok (.invokespecial 3, 3) := by decide +kernel
theorem dX6_init_4 : decode cX6_init 4 = .ok (.aload_n 0, 1) := by decide +kernel
theorem dX6_init_5 : decode cX6_init 5 = .ok (.sipush 400, 3) := by decide +kernel
theorem dX6_init_8 : decode cX6_init 8 = .ok (.newarray .byte, 2) := by decide +kernel
theorem dX6_init_10 : decode cX6_init 10 = .ok (.putfield 9, 3) := by decide +kernel
theorem dX6_init_13 : decode cX6_init 13 = .ok (.aload_n 0, 1) := by decide +kernel
theorem dX6_init_14 : decode cX6_init 14 = .ok (.iconst 0, 1) := by decide +kernel
theorem dX6_init_15 : decode cX6_init 15 = .ok (.putfield 15, 3) := by decide +kernel
theorem dX6_init_18 : decode cX6_init 18 = .ok (.aload_n 0, 1) := by decide +kernel
theorem dX6_init_19 : decode cX6_init 19 = .ok (.iconst 0, 1) := by decide +kernel
theorem dX6_init_20 : decode cX6_init 20 = .ok (.putfield 19, 3) := by decide +kernel
theorem dX6_init_23 : decode cX6_init 23 = .ok (.aload_n 0, 1) := by decide +kernel
theorem dX6_init_24 : decode cX6_init 24 = .ok (.iconst 0, 1) := by decide +kernel
theorem dX6_init_25 : decode cX6_init 25 = .ok (.putfield 22, 3) := by decide +kernel
theorem dX6_init_28 : decode cX6_init 28 = .ok (.aload_n 0, 1) := by decide +kernel
theorem dX6_init_29 : decode cX6_init 29 = .ok (.iconst 0, 1) := by decide +kernel
theorem dX6_init_30 : decode cX6_init 30 = .ok (.putfield 25, 3) := by decide +kernel
theorem dX6_init_33 : decode cX6_init 33 = .ok (.aload_n 0, 1) := by decide +kernel
theorem dX6_init_34 : decode cX6_init 34 = .ok (.iconst 0, 1) := by decide +kernel
theorem dX6_init_35 : decode cX6_init 35 = .ok (.putfield 28, 3) := by decide +kernel
theorem dX6_init_38 : decode cX6_init 38 = .ok (.aload_n 0, 1) := by decide +kernel
theorem dX6_init_39 : decode cX6_init 39 = .ok (.iconst (-1), 1) := by decide +kernel
theorem dX6_init_40 : decode cX6_init 40 = .ok (.putfield 31, 3) := by decide +kernel
theorem dX6_init_43 : decode cX6_init 43 = .ok (.return_, 1) := by decide +kernel
set_option maxRecDepth 100000 in
def F_X6_init_b0 (v0 : Nat) (h : Hp) : Option (Unit × Hp × Nat × Nat) :=
  ob (some (zN h)) fun q1 => ac 1 ((400 : Int32)).toNatClampNeg <| gd (decide (kd (alloc h 12 ((400 : Int32)).toNatClampNeg) v0 = 6)) <| ob (some (setI (setI (setI (setR (alloc h 12 ((400 : Int32)).toNatClampNeg) v0 0 (some q1)) v0 1 (0 : Int32)) v0 2 (0 : Int32)) v0 3 (0 : Int32))) fun h6 => some ((), setI (setI (setI h6 v0 4 (0 : Int32)) v0 5 (0 : Int32)) v0 6 (-1 : Int32), 0, 0)
set_option maxHeartbeats 4000000 in
set_option maxRecDepth 100000 in
theorem r_X6_init_b0 (v0 : Nat) (h : Hp) {x : Cx} {r : Unit} {hz : Hp} {c9 s9 : Nat} (e : F_X6_init_b0 v0 h = some (r, hz, c9, s9)) (hF : Fin9 M_X6_init x none none hz) : V M_X6_init x 1 0 [(0, .ref v0)] [] h c9 s9 := by
  unfold F_X6_init_b0 at e
  refine V_aload_n (pc := 0) (i := 0) dX6_init_0 rfl rfl ?_
  refine V_objI (pc := 1) dX6_init_1 wo_X6_3 (by decide) (Nat.le_of_ble_eq_true rfl) ?_
  refine V_aload_n (pc := 4) (i := 0) dX6_init_4 rfl rfl ?_
  refine V_sipush (pc := 5) (v := (400 : Int32)) dX6_init_5 (by decide) ?_
  replace e := ob_some e
  obtain ⟨q1, g2, e⟩ := e
  replace e := ac_some e
  obtain ⟨n3, n4, e, hc9, hs9⟩ := e
  rw [hc9, hs9]
  clear hc9 hs9
  refine V_newBQ (pc := 8) (n := (400 : Int32)) dX6_init_8 wa_byte (by decide) (by decide) (q := q1) (bc := n3) (bs := n4) (Option.some.inj g2) ?_
  replace e := gd_some e
  obtain ⟨g5, e⟩ := e
  refine V_putRF (pc := 10) (ci := 6) (k := 0) dX6_init_10 fp_X6_9 rfl (of_decide_eq_true g5) (fun _ => ⟨rfl, rfl⟩) rfl ?_
  refine V_aload_n (pc := 13) (i := 0) dX6_init_13 rfl rfl ?_
  refine V_iconst (pc := 14) (v := (0 : Int32)) dX6_init_14 (by decide) ?_
  refine V_putI (pc := 15) (ci := 6) (k := 1) dX6_init_15 fp_X6_15 rfl (kd_sR (of_decide_eq_true g5)) ?_
  refine V_aload_n (pc := 18) (i := 0) dX6_init_18 rfl rfl ?_
  refine V_iconst (pc := 19) (v := (0 : Int32)) dX6_init_19 (by decide) ?_
  refine V_putI (pc := 20) (ci := 6) (k := 2) dX6_init_20 fp_X6_19 rfl (kd_sI (kd_sR (of_decide_eq_true g5))) ?_
  refine V_aload_n (pc := 23) (i := 0) dX6_init_23 rfl rfl ?_
  refine V_iconst (pc := 24) (v := (0 : Int32)) dX6_init_24 (by decide) ?_
  refine V_putI (pc := 25) (ci := 6) (k := 3) dX6_init_25 fp_X6_22 rfl (kd_sI (kd_sI (kd_sR (of_decide_eq_true g5)))) ?_
  replace e := ob_some e
  obtain ⟨h6, g7, e⟩ := e
  refine V_hp (Option.some.inj g7) ?_
  have k8 : kd h6 q1 = 12 := kd_eq (h := (setI (setI (setI (setR (alloc h 12 ((400 : Int32)).toNatClampNeg) v0 0 (some q1)) v0 1 (0 : Int32)) v0 2 (0 : Int32)) v0 3 (0 : Int32))) (Option.some.inj g7) (kd_sI (kd_sI (kd_sI (kd_sR (kd_newq (Option.some.inj g2))))))
  have k9 : kd h6 v0 = 6 := kd_eq (h := (setI (setI (setI (setR (alloc h 12 ((400 : Int32)).toNatClampNeg) v0 0 (some q1)) v0 1 (0 : Int32)) v0 2 (0 : Int32)) v0 3 (0 : Int32))) (Option.some.inj g7) (kd_sI (kd_sI (kd_sI (kd_sR (of_decide_eq_true g5)))))
  refine V_aload_n (pc := 28) (i := 0) dX6_init_28 rfl rfl ?_
  refine V_iconst (pc := 29) (v := (0 : Int32)) dX6_init_29 (by decide) ?_
  refine V_putI (pc := 30) (ci := 6) (k := 4) dX6_init_30 fp_X6_25 rfl k9 ?_
  refine V_aload_n (pc := 33) (i := 0) dX6_init_33 rfl rfl ?_
  refine V_iconst (pc := 34) (v := (0 : Int32)) dX6_init_34 (by decide) ?_
  refine V_putI (pc := 35) (ci := 6) (k := 5) dX6_init_35 fp_X6_28 rfl (kd_sI k9) ?_
  refine V_aload_n (pc := 38) (i := 0) dX6_init_38 rfl rfl ?_
  refine V_iconst (pc := 39) (v := (-1 : Int32)) dX6_init_39 (by decide) ?_
  refine V_putI (pc := 40) (ci := 6) (k := 6) dX6_init_40 fp_X6_31 rfl (kd_sI (kd_sI k9)) ?_
  cases e
  exact V_vret (pc := 43) dX6_init_43 hF
def F_X6_init (v0 : Nat) (h : Hp) : Option (Unit × Hp × Nat × Nat) := F_X6_init_b0 v0 h
theorem c_X6_init {l : Launch} (v0 : Nat) (h : Hp) {r : Unit} {hz : Hp} {c9 s9 : Nat} (e : F_X6_init v0 h = some (r, hz, c9, s9)) : Ct l yX6_init M_X6_init none 1 [.ref v0] h c9 s9 none hz :=
  Ct_of rfl rfl (fun _ => rfl) (Nat.le_of_ble_eq_true rfl) (fun x _ hF => V_pick [0] rfl (r_X6_init_b0 v0 h e hF))
theorem dX6_append_0 : decode cX6_append 0 = .ok (.bipush 24, 2) := by decide +kernel
theorem dX6_append_2 : decode cX6_append 2 = .ok (.istore_n 2, 1) := by decide +kernel
theorem dX6_append_3 : decode cX6_append 3 = .ok (.iload_n 2, 1) := by decide +kernel
theorem dX6_append_4 : decode cX6_append 4 = .ok (.ifCond .lt 44, 3) := by decide +kernel
theorem dX6_append_7 : decode cX6_append 7 = .ok (.aload_n 0, 1) := by decide +kernel
theorem dX6_append_8 : decode cX6_append 8 = .ok (.getfield 15, 3) := by decide +kernel
theorem dX6_append_11 : decode cX6_append 11 = .ok (.aload_n 0, 1) := by decide +kernel
theorem dX6_append_12 : decode cX6_append 12 = .ok (.getfield 9, 3) := by decide +kernel
theorem dX6_append_15 : decode cX6_append 15 = .ok (.arraylength, 1) := by decide +kernel
theorem dX6_append_16 : decode cX6_append 16 = .ok (.if_icmp .ge 32, 3) := by decide +kernel
theorem dX6_append_19 : decode cX6_append 19 = .ok (.aload_n 0, 1) := by decide +kernel
theorem dX6_append_20 : decode cX6_append 20 = .ok (.getfield 9, 3) := by decide +kernel
theorem dX6_append_23 : decode cX6_append 23 = .ok (.aload_n 0, 1) := by decide +kernel
theorem dX6_append_24 : decode cX6_append 24 = .ok (.getfield 15, 3) := by decide +kernel
theorem dX6_append_27 : decode cX6_append 27 = .ok (.iload_n 1, 1) := by decide +kernel
theorem dX6_append_28 : decode cX6_append 28 = .ok (.iload_n 2, 1) := by decide +kernel
theorem dX6_append_29 : decode cX6_append 29 = .ok (.ishr, 1) := by decide +kernel
theorem dX6_append_30 : decode cX6_append 30 = .ok (.i2b, 1) := by decide +kernel
theorem dX6_append_31 : decode cX6_append 31 = .ok (.bastore, 1) := by decide +kernel
theorem dX6_append_32 : decode cX6_append 32 = .ok (.aload_n 0, 1) := by decide +kernel
theorem dX6_append_33 : decode cX6_append 33 = .ok (.dup, 1) := by decide +kernel
theorem dX6_append_34 : decode cX6_append 34 = .ok (.getfield 15, 3) := by decide +kernel
theorem dX6_append_37 : decode cX6_append 37 = .ok (.iconst 1, 1) := by decide +kernel
theorem dX6_append_38 : decode cX6_append 38 = .ok (.iadd, 1) := by decide +kernel
theorem dX6_append_39 : decode cX6_append 39 = .ok (.putfield 15, 3) := by decide +kernel
theorem dX6_append_42 : decode cX6_append 42 = .ok (.iinc 2 (-8), 3) := by decide +kernel
theorem dX6_append_45 : decode cX6_append 45 = .ok (.goto (-42), 3) := by decide +kernel
theorem dX6_append_48 : decode cX6_append 48 = .ok (.return_, 1) := by decide +kernel
set_option maxRecDepth 100000 in
def F_X6_append_l3 (v0 : Nat) (v1 : Int32) (v2 : Int32) (h : Hp) : Option ((Int32 × Hp) ⊕ Hp) :=
  (if v2 < 0 then some (.inr h) else gd (decide (kd h v0 = 6)) <| ob (zR h v0 0) fun q2 => gd (decide (kd h q2 = 12)) <| (if (Int32.ofNat (zl h q2)) ≤ (zI h v0 1) then some (.inr h) else ob (zR h v0 0) fun q5 => gd (decide (kd h q5 = 12)) <| gd (ix (zI h v0 1) (zl h q5)) <| ob (some (setI (setI h q5 (zI h v0 1).toNatClampNeg (vp_nar .byte ((v1 >>> (v2 &&& 31)).toInt8.toInt32))) v0 1 ((zI (setI h q5 (zI h v0 1).toNatClampNeg (vp_nar .byte ((v1 >>> (v2 &&& 31)).toInt8.toInt32))) v0 1) + (1 : Int32)))) fun h9 => some (.inl (v2 + (-8 : Int32), h9))))
set_option maxHeartbeats 4000000 in
set_option maxRecDepth 100000 in
theorem r_X6_append_l3 (v0 : Nat) (v1 : Int32) (v2 : Int32) (h : Hp) {x : Cx} {o : ((Int32 × Hp) ⊕ Hp)} (e : F_X6_append_l3 v0 v1 v2 h = some o) (kI : ∀ z, o = .inl z → V M_X6_append x 0 3 [(0, .ref v0), (1, .int v1), (2, .int z.1)] [] z.2 0 0) (kE48 : ∀ z : Hp, o = .inr z → V M_X6_append x 0 48 [] [] z 0 0) : V M_X6_append x 0 3 [(0, .ref v0), (1, .int v1), (2, .int v2)] [] h 0 0 := by
  unfold F_X6_append_l3 at e
  refine V_iload_n (pc := 3) (i := 2) dX6_append_3 rfl rfl ?_
  refine V_if_lt (pc := 4) (tgt := 48) dX6_append_4 (by decide) (fun c15 => ?_) (fun c15 => ?_)
  · rw [if_pos c15] at e
    cases e
    exact V_pick [] rfl (kE48 h rfl)
  · rw [if_neg c15] at e
    refine V_pick [0, 1, 2] rfl ?_
    refine V_aload_n (pc := 7) (i := 0) dX6_append_7 rfl rfl ?_
    obtain ⟨g1, e⟩ := gd_some e
    refine V_getI (pc := 8) (ci := 6) (k := 1) dX6_append_8 fl_X6_15 rfl (of_decide_eq_true g1) ?_
    refine V_aload_n (pc := 11) (i := 0) dX6_append_11 rfl rfl ?_
    obtain ⟨q2, g3, e⟩ := ob_some e
    refine V_getR (pc := 12) (ci := 6) (k := 0) (b := q2) dX6_append_12 fl_X6_9 rfl (of_decide_eq_true g1) g3 ?_
    obtain ⟨g4, e⟩ := gd_some e
    refine V_alen (pc := 15) (k := 12) dX6_append_15 (of_decide_eq_true g4) (by decide) ?_
    refine V_icmp_ge (pc := 16) (tgt := 48) dX6_append_16 (by decide) (fun c14 => ?_) (fun c14 => ?_)
    · rw [if_pos c14] at e
      cases e
      exact V_pick [] rfl (kE48 h rfl)
    · rw [if_neg c14] at e
      refine V_pick [0, 1, 2] rfl ?_
      refine V_aload_n (pc := 19) (i := 0) dX6_append_19 rfl rfl ?_
      obtain ⟨q5, g6, e⟩ := ob_some e
      refine V_getR (pc := 20) (ci := 6) (k := 0) (b := q5) dX6_append_20 fl_X6_9 rfl (of_decide_eq_true g1) g6 ?_
      refine V_aload_n (pc := 23) (i := 0) dX6_append_23 rfl rfl ?_
      refine V_getI (pc := 24) (ci := 6) (k := 1) dX6_append_24 fl_X6_15 rfl (of_decide_eq_true g1) ?_
      refine V_iload_n (pc := 27) (i := 1) dX6_append_27 rfl rfl ?_
      refine V_iload_n (pc := 28) (i := 2) dX6_append_28 rfl rfl ?_
      refine V_ishr (pc := 29) dX6_append_29 ?_
      refine V_i2b (pc := 30) dX6_append_30 ?_
      obtain ⟨g7, e⟩ := gd_some e
      obtain ⟨g8, e⟩ := gd_some e
      refine V_bast (pc := 31) dX6_append_31 (of_decide_eq_true g7) (ix_in g8) ?_
      refine V_aload_n (pc := 32) (i := 0) dX6_append_32 rfl rfl ?_
      refine V_dup (pc := 33) dX6_append_33 rfl ?_
      refine V_getI (pc := 34) (ci := 6) (k := 1) dX6_append_34 fl_X6_15 rfl (kd_sI (of_decide_eq_true g1)) ?_
      refine V_iconst (pc := 37) (v := (1 : Int32)) dX6_append_37 (by decide) ?_
      refine V_iadd (pc := 38) dX6_append_38 ?_
      refine V_putI (pc := 39) (ci := 6) (k := 1) dX6_append_39 fp_X6_15 rfl (kd_sI (of_decide_eq_true g1)) ?_
      obtain ⟨h9, g10, e⟩ := ob_some e
      refine V_hp (Option.some.inj g10) ?_
      have k11 : kd h9 v0 = 6 := kd_eq (h := (setI (setI h q5 (zI h v0 1).toNatClampNeg (vp_nar .byte ((v1 >>> (v2 &&& 31)).toInt8.toInt32))) v0 1 ((zI (setI h q5 (zI h v0 1).toNatClampNeg (vp_nar .byte ((v1 >>> (v2 &&& 31)).toInt8.toInt32))) v0 1) + (1 : Int32)))) (Option.some.inj g10) (kd_sI (kd_sI (of_decide_eq_true g1)))
      have k12 : kd h9 q2 = 12 := kd_eq (h := (setI (setI h q5 (zI h v0 1).toNatClampNeg (vp_nar .byte ((v1 >>> (v2 &&& 31)).toInt8.toInt32))) v0 1 ((zI (setI h q5 (zI h v0 1).toNatClampNeg (vp_nar .byte ((v1 >>> (v2 &&& 31)).toInt8.toInt32))) v0 1) + (1 : Int32)))) (Option.some.inj g10) (kd_sI (kd_sI (of_decide_eq_true g4)))
      have k13 : kd h9 q5 = 12 := kd_eq (h := (setI (setI h q5 (zI h v0 1).toNatClampNeg (vp_nar .byte ((v1 >>> (v2 &&& 31)).toInt8.toInt32))) v0 1 ((zI (setI h q5 (zI h v0 1).toNatClampNeg (vp_nar .byte ((v1 >>> (v2 &&& 31)).toInt8.toInt32))) v0 1) + (1 : Int32)))) (Option.some.inj g10) (kd_sI (kd_sI (of_decide_eq_true g7)))
      refine V_iinc (pc := 42) (i := 2) (u := v2 + (-8 : Int32)) (lv' := [(2, .int (v2 + (-8 : Int32))), (0, .ref v0), (1, .int v1)]) dX6_append_42 rfl rfl (by decide) rfl ?_
      refine V_goto (pc := 45) (tgt := 3) dX6_append_45 (by decide) ?_
      cases e
      exact V_pick [1, 2, 0] rfl (kI (v2 + (-8 : Int32), h9) rfl)
set_option maxRecDepth 100000 in
def F_X6_append_b48  (h : Hp) : Option (Unit × Hp) :=
  some ((), h)
set_option maxHeartbeats 4000000 in
set_option maxRecDepth 100000 in
theorem r_X6_append_b48  (h : Hp) {x : Cx} {r : Unit} {hz : Hp} (e : F_X6_append_b48  h = some (r, hz)) (hF : Fin9 M_X6_append x none none hz) : V M_X6_append x 0 48 [] [] h 0 0 := by
  unfold F_X6_append_b48 at e
  cases e
  exact V_vret (pc := 48) dX6_append_48 hF
set_option maxRecDepth 100000 in
def F_X6_append_b0 (v0 : Nat) (v1 : Int32) (h : Hp) : Option (Unit × Hp) :=
  ob (iter (fun z : Int32 × Hp => F_X6_append_l3 v0 v1 z.1 z.2) FU ((24 : Int32), h)) (fun h16 => F_X6_append_b48 h16)
set_option maxHeartbeats 4000000 in
set_option maxRecDepth 100000 in
theorem r_X6_append_b0 (v0 : Nat) (v1 : Int32) (h : Hp) {x : Cx} {r : Unit} {hz : Hp} (e : F_X6_append_b0 v0 v1 h = some (r, hz)) (hF : Fin9 M_X6_append x none none hz) : V M_X6_append x 0 0 [(0, .ref v0), (1, .int v1)] [] h 0 0 := by
  unfold F_X6_append_b0 at e
  refine V_bipush (pc := 0) (v := (24 : Int32)) dX6_append_0 (by decide) ?_
  refine V_istore_n (pc := 2) (i := 2) (lv' := [(2, .int (24 : Int32)), (0, .ref v0), (1, .int v1)]) dX6_append_2 rfl (by decide) rfl ?_
  refine V_pick [1, 2, 0] rfl ?_
  obtain ⟨y17, g18, e⟩ := ob_some e
  refine iter_V (P := fun z : Int32 × Hp => V M_X6_append x 0 3 [(0, .ref v0), (1, .int v1), (2, .int z.1)] [] z.2 0 0) (E := fun z : Hp => V M_X6_append x 0 48 [] [] z 0 0) (fun z o e9 k1 k2 => r_X6_append_l3 v0 v1 z.1 z.2 e9 (fun z hz9 => k1 z hz9) (fun z hz9 => k2 _ hz9)) _ _ _ g18 ?_
  clear g18
  obtain ⟨h16, rfl⟩ : ∃ q, q = y17 := ⟨_, rfl⟩
  replace e : (F_X6_append_b48 h16) = some (r, hz) := e
  show V M_X6_append x 0 48 [] [] h16 0 0
  exact V_pick [] rfl (r_X6_append_b48 h16 e hF)
def F_X6_append (v0 : Nat) (v1 : Int32) (h : Hp) : Option (Unit × Hp) := F_X6_append_b0 v0 v1 h
theorem c_X6_append {l : Launch} (v0 : Nat) (v1 : Int32) (h : Hp) {r : Unit} {hz : Hp} (e : F_X6_append v0 v1 h = some (r, hz)) : Ct l yX6_append M_X6_append none 0 [.ref v0, .int v1] h 0 0 none hz :=
  Ct_of rfl rfl (fun q => by cases q) (Nat.le_of_ble_eq_true rfl) (fun x _ hF => V_pick [0, 1] rfl (r_X6_append_b0 v0 v1 h e hF))
theorem dX6_lookAtNext_0 : decode cX6_lookAtNext 0 = .ok (.aload_n 0, 1) := by decide +kernel
theorem dX6_lookAtNext_1 : decode cX6_lookAtNext 1 = .ok (.aload_n 0, 1) := by decide +kernel
theorem dX6_lookAtNext_2 : decode cX6_lookAtNext 2 = .ok (.getfield 25, 3) := by decide +kernel
theorem dX6_lookAtNext_5 : decode cX6_lookAtNext 5 = .ok (.putfield 22, 3) := by decide +kernel
theorem dX6_lookAtNext_8 : decode cX6_lookAtNext 8 = .ok (.aload_n 0, 1) := by decide +kernel
theorem dX6_lookAtNext_9 : decode cX6_lookAtNext 9 = .ok (.getfield 22, 3) := by decide +kernel
theorem dX6_lookAtNext_12 : decode cX6_lookAtNext 12 = .ok (.aload_n 0, 1) := by decide +kernel
theorem dX6_lookAtNext_13 : decode cX6_lookAtNext 13 = .ok (.getfield 15, 3) := by decide +kernel
theorem dX6_lookAtNext_16 : decode cX6_lookAtNext 16 = .ok (.if_icmp .ge 30, 3) := by decide +kernel
theorem dX6_lookAtNext_19 : decode cX6_lookAtNext 19 = .ok (.aload_n 0, 1) := by decide +kernel
theorem dX6_lookAtNext_20 : decode cX6_lookAtNext 20 = .ok (.getfield 9, 3) := by decide +kernel
theorem dX6_lookAtNext_23 : decode cX6_lookAtNext 23 = .ok (.aload_n 0, 1) := by decide +kernel
theorem dX6_lookAtNext_24 : decode cX6_lookAtNext 24 = .ok (.getfield 22, 3) := by decide +kernel
theorem dX6_lookAtNext_27 : decode cX6_lookAtNext 27 = .ok (.baload, 1) := by decide +kernel
theorem dX6_lookAtNext_28 : decode cX6_lookAtNext 28 = .ok (.bipush 32, 2) := by decide +kernel
theorem dX6_lookAtNext_30 : decode cX6_lookAtNext 30 = .ok (.if_icmp .ne 16, 3) := by decide +kernel
theorem dX6_lookAtNext_33 : decode cX6_lookAtNext 33 = .ok (.aload_n 0, 1) := by decide +kernel
theorem dX6_lookAtNext_34 : decode cX6_lookAtNext 34 = .ok (.dup, 1) := by decide +kernel
theorem dX6_lookAtNext_35 : decode cX6_lookAtNext 35 = .ok (.getfield 22, 3) := by decide +kernel
theorem dX6_lookAtNext_38 : decode cX6_lookAtNext 38 = .ok (.iconst 1, 1) := by decide +kernel
theorem dX6_lookAtNext_39 : decode cX6_lookAtNext 39 = .ok (.iadd, 1) := by decide +kernel
theorem dX6_lookAtNext_40 : decode cX6_lookAtNext 40 = .ok (.putfield 22, 3) := by decide +kernel
theorem dX6_lookAtNext_43 : decode cX6_lookAtNext 43 = .ok (.goto (-35), 3) := by decide +kernel
theorem dX6_lookAtNext_46 : decode cX6_lookAtNext 46 = .ok (.aload_n 0, 1) := by decide +kernel
theorem dX6_lookAtNext_47 : decode cX6_lookAtNext 47 = .ok (.aload_n 0, 1) := by decide +kernel
theorem dX6_lookAtNext_48 : decode cX6_lookAtNext 48 = .ok (.getfield 22, 3) := by decide +kernel
theorem dX6_lookAtNext_51 : decode cX6_lookAtNext 51 = .ok (.putfield 25, 3) := by decide +kernel
theorem dX6_lookAtNext_54 : decode cX6_lookAtNext 54 = .ok (.aload_n 0, 1) := by decide +kernel
theorem dX6_lookAtNext_55 : decode cX6_lookAtNext 55 = .ok (.getfield 25, 3) := by decide +kernel
theorem dX6_lookAtNext_58 : decode cX6_lookAtNext 58 = .ok (.aload_n 0, 1) := by decide +kernel
theorem dX6_lookAtNext_59 : decode cX6_lookAtNext 59 = .ok (.getfield 15, 3) := by decide +kernel
theorem dX6_lookAtNext_62 : decode cX6_lookAtNext 62 = .ok (.if_icmp .ge 44, 3) := by decide +kernel
theorem dX6_lookAtNext_65 : decode cX6_lookAtNext 65 = .ok (.aload_n 0, 1) := by decide +kernel
theorem dX6_lookAtNext_66 : decode cX6_lookAtNext 66 = .ok (.getfield 9, 3) := by decide +kernel
theorem dX6_lookAtNext_69 : decode cX6_lookAtNext 69 = .ok (.aload_n 0, 1) := by decide +kernel
theorem dX6_lookAtNext_70 : decode cX6_lookAtNext 70 = .ok (.getfield 25, 3) := by decide +kernel
theorem dX6_lookAtNext_73 : decode cX6_lookAtNext 73 = .ok (.baload, 1) := by decide +kernel
theorem dX6_lookAtNext_74 : decode cX6_lookAtNext 74 = .ok (.bipush 97, 2) := by decide +kernel
theorem dX6_lookAtNext_76 : decode cX6_lookAtNext 76 = .ok (.if_icmp .lt 30, 3) := by decide +kernel
theorem dX6_lookAtNext_79 : decode cX6_lookAtNext 79 = .ok (.aload_n 0, 1) := by decide +kernel
theorem dX6_lookAtNext_80 : decode cX6_lookAtNext 80 = .ok (.getfield 9, 3) := by decide +kernel
theorem dX6_lookAtNext_83 : decode cX6_lookAtNext 83 = .ok (.aload_n 0, 1) := by decide +kernel
theorem dX6_lookAtNext_84 : decode cX6_lookAtNext 84 = .ok (.getfield 25, 3) := by decide +kernel
theorem dX6_lookAtNext_87 : decode cX6_lookAtNext 87 = .ok (.baload, 1) := by decide +kernel
theorem dX6_lookAtNext_88 : decode cX6_lookAtNext 88 = .ok (.bipush 122, 2) := by decide +kernel
theorem dX6_lookAtNext_90 : decode cX6_lookAtNext 90 = .ok (.if_icmp .gt 16, 3) := by decide +kernel
theorem dX6_lookAtNext_93 : decode cX6_lookAtNext 93 = .ok (.aload_n 0, 1) := by decide +kernel
theorem dX6_lookAtNext_94 : decode cX6_lookAtNext 94 = .ok (.dup, 1) := by decide +kernel
theorem dX6_lookAtNext_95 : decode cX6_lookAtNext 95 = .ok (.getfield 25, 3) := by decide +kernel
theorem dX6_lookAtNext_98 : decode cX6_lookAtNext 98 = .ok (.iconst 1, 1) := by decide +kernel
theorem dX6_lookAtNext_99 : decode cX6_lookAtNext 99 = .ok (.iadd, 1) := by decide +kernel
theorem dX6_lookAtNext_100 : decode cX6_lookAtNext 100 = .ok (.putfield 25, 3) := by decide +kernel
theorem dX6_lookAtNext_103 : decode cX6_lookAtNext 103 = .ok (.goto (-49), 3) := by decide +kernel
theorem dX6_lookAtNext_106 : decode cX6_lookAtNext 106 = .ok (.aload_n 0, 1) := by decide +kernel
theorem dX6_lookAtNext_107 : decode cX6_lookAtNext 107 = .ok (.getfield 25, 3) := by decide +kernel
theorem dX6_lookAtNext_110 : decode cX6_lookAtNext 110 = .ok (.aload_n 0, 1) := by decide +kernel
theorem dX6_lookAtNext_111 : decode cX6_lookAtNext 111 = .ok (.getfield 22, 3) := by decide +kernel
theorem dX6_lookAtNext_114 : decode cX6_lookAtNext 114 = .ok (.if_icmp .le 9, 3) := by decide +kernel
theorem dX6_lookAtNext_117 : decode cX6_lookAtNext 117 = .ok (.aload_n 0, 1) := by decide +kernel
theorem dX6_lookAtNext_118 : decode cX6_lookAtNext 118 = .ok (.iconst 1, 1) := by decide +kernel
theorem dX6_lookAtNext_119 : decode cX6_lookAtNext 119 = .ok (.putfield 19, 3) := by decide +kernel
theorem dX6_lookAtNext_122 : decode cX6_lookAtNext 122 = .ok (.return_, 1) := by decide +kernel
theorem dX6_lookAtNext_123 : decode cX6_lookAtNext 123 = .ok (.aload_n 0, 1) := by decide +kernel
theorem dX6_lookAtNext_124 : decode cX6_lookAtNext 124 = .ok (.getfield 25, 3) := by decide +kernel
theorem dX6_lookAtNext_127 : decode cX6_lookAtNext 127 = .ok (.aload_n 0, 1) := by decide +kernel
theorem dX6_lookAtNext_128 : decode cX6_lookAtNext 128 = .ok (.getfield 15, 3) := by decide +kernel
theorem dX6_lookAtNext_131 : decode cX6_lookAtNext 131 = .ok (.if_icmp .ge 44, 3) := by decide +kernel
theorem dX6_lookAtNext_134 : decode cX6_lookAtNext 134 = .ok (.aload_n 0, 1) := by decide +kernel
theorem dX6_lookAtNext_135 : decode cX6_lookAtNext 135 = .ok (.getfield 9, 3) := by decide +kernel
theorem dX6_lookAtNext_138 : decode cX6_lookAtNext 138 = .ok (.aload_n 0, 1) := by decide +kernel
theorem dX6_lookAtNext_139 : decode cX6_lookAtNext 139 = .ok (.getfield 25, 3) := by decide +kernel
theorem dX6_lookAtNext_142 : decode cX6_lookAtNext 142 = .ok (.baload, 1) := by decide +kernel
theorem dX6_lookAtNext_143 : decode cX6_lookAtNext 143 = .ok (.bipush 48, 2) := by decide +kernel
theorem dX6_lookAtNext_145 : decode cX6_lookAtNext 145 = .ok (.if_icmp .lt 30, 3) := by decide +kernel
theorem dX6_lookAtNext_148 : decode cX6_lookAtNext 148 = .ok (.aload_n 0, 1) := by decide +kernel
theorem dX6_lookAtNext_149 : decode cX6_lookAtNext 149 = .ok (.getfield 9, 3) := by decide +kernel
theorem dX6_lookAtNext_152 : decode cX6_lookAtNext 152 = .ok (.aload_n 0, 1) := by decide +kernel
theorem dX6_lookAtNext_153 : decode cX6_lookAtNext 153 = .ok (.getfield 25, 3) := by decide +kernel
theorem dX6_lookAtNext_156 : decode cX6_lookAtNext 156 = .ok (.baload, 1) := by decide +kernel
theorem dX6_lookAtNext_157 : decode cX6_lookAtNext 157 = .ok (.bipush 57, 2) := by decide +kernel
theorem dX6_lookAtNext_159 : decode cX6_lookAtNext 159 = .ok (.if_icmp .gt 16, 3) := by decide +kernel
theorem dX6_lookAtNext_162 : decode cX6_lookAtNext 162 = .ok (.aload_n 0, 1) := by decide +kernel
theorem dX6_lookAtNext_163 : decode cX6_lookAtNext 163 = .ok (.dup, 1) := by decide +kernel
theorem dX6_lookAtNext_164 : decode cX6_lookAtNext 164 = .ok (.getfield 25, 3) := by decide +kernel
theorem dX6_lookAtNext_167 : decode cX6_lookAtNext 167 = .ok (.iconst 1, 1) := by decide +kernel
theorem dX6_lookAtNext_168 : decode cX6_lookAtNext 168 = .ok (.iadd, 1) := by decide +kernel
theorem dX6_lookAtNext_169 : decode cX6_lookAtNext 169 = .ok (.putfield 25, 3) := by decide +kernel
theorem dX6_lookAtNext_172 : decode cX6_lookAtNext 172 = .ok (.goto (-49), 3) := by decide +kernel
theorem dX6_lookAtNext_175 : decode cX6_lookAtNext 175 = .ok (.aload_n 0, 1) := by decide +kernel
theorem dX6_lookAtNext_176 : decode cX6_lookAtNext 176 = .ok (.getfield 25, 3) := by decide +kernel
theorem dX6_lookAtNext_179 : decode cX6_lookAtNext 179 = .ok (.aload_n 0, 1) := by decide +kernel
theorem dX6_lookAtNext_180 : decode cX6_lookAtNext 180 = .ok (.getfield 22, 3) := by decide +kernel
theorem dX6_lookAtNext_183 : decode cX6_lookAtNext 183 = .ok (.if_icmp .le 9, 3) := by decide +kernel
theorem dX6_lookAtNext_186 : decode cX6_lookAtNext 186 = .ok (.aload_n 0, 1) := by decide +kernel
theorem dX6_lookAtNext_187 : decode cX6_lookAtNext 187 = .ok (.iconst 2, 1) := by decide +kernel
theorem dX6_lookAtNext_188 : decode cX6_lookAtNext 188 = .ok (.putfield 19, 3) := by decide +kernel
theorem dX6_lookAtNext_191 : decode cX6_lookAtNext 191 = .ok (.return_, 1) := by decide +kernel
theorem dX6_lookAtNext_192 : decode cX6_lookAtNext 192 = .ok (.aload_n 0, 1) := by decide +kernel
theorem dX6_lookAtNext_193 : decode cX6_lookAtNext 193 = .ok (.aload_n 0, 1) := by decide +kernel
theorem dX6_lookAtNext_194 : decode cX6_lookAtNext 194 = .ok (.getfield 22, 3) := by decide +kernel
theorem dX6_lookAtNext_197 : decode cX6_lookAtNext 197 = .ok (.aload_n 0, 1) := by decide +kernel
theorem dX6_lookAtNext_198 : decode cX6_lookAtNext 198 = .ok (.getfield 15, 3) := by decide +kernel
theorem dX6_lookAtNext_201 : decode cX6_lookAtNext 201 = .ok (.if_icmp .ge 7, 3) := by decide +kernel
theorem dX6_lookAtNext_204 : decode cX6_lookAtNext 204 = .ok (.iconst 3, 1) := by decide +kernel
theorem dX6_lookAtNext_205 : decode cX6_lookAtNext 205 = .ok (.goto 4, 3) := by decide +kernel
theorem dX6_lookAtNext_208 : decode cX6_lookAtNext 208 = .ok (.iconst 0, 1) := by decide +kernel
theorem dX6_lookAtNext_209 : decode cX6_lookAtNext 209 = .ok (.putfield 19, 3) := by decide +kernel
theorem dX6_lookAtNext_212 : decode cX6_lookAtNext 212 = .ok (.aload_n 0, 1) := by decide +kernel
theorem dX6_lookAtNext_213 : decode cX6_lookAtNext 213 = .ok (.aload_n 0, 1) := by decide +kernel
theorem dX6_lookAtNext_214 : decode cX6_lookAtNext 214 = .ok (.getfield 15, 3) := by decide +kernel
theorem dX6_lookAtNext_217 : decode cX6_lookAtNext 217 = .ok (.aload_n 0, 1) := by decide +kernel
theorem dX6_lookAtNext_218 : decode cX6_lookAtNext 218 = .ok (.getfield 22, 3) := by decide +kernel
theorem dX6_lookAtNext_221 : decode cX6_lookAtNext 221 = .ok (.iconst 1, 1) := by decide +kernel
theorem dX6_lookAtNext_222 : decode cX6_lookAtNext 222 = .ok (.iadd, 1) := by decide +kernel
theorem dX6_lookAtNext_223 : decode cX6_lookAtNext 223 = .ok (.invokestatic 37, 3) := by decide +kernel
theorem dX6_lookAtNext_226 : decode cX6_lookAtNext 226 = .ok (.putfield 25, 3) := by decide +kernel
theorem dX6_lookAtNext_229 : decode cX6_lookAtNext 229 = .ok (.return_, 1) := by decide +kernel
set_option maxRecDepth 100000 in
def F_X6_lookAtNext_l8 (v0 : Nat) (h : Hp) : Option (Hp ⊕ Hp) :=
  gd (decide (kd h v0 = 6)) <| (if (zI h v0 1) ≤ (zI h v0 3) then some (.inr h) else ob (zR h v0 0) fun q3 => gd (decide (kd h q3 = 12)) <| gd (ix (zI h v0 3) (zl h q3)) <| (if (zI h q3 (zI h v0 3).toNatClampNeg) = (32 : Int32) then some (.inl (setI h v0 3 ((zI h v0 3) + (1 : Int32)))) else some (.inr h)))
set_option maxHeartbeats 4000000 in
set_option maxRecDepth 100000 in
theorem r_X6_lookAtNext_l8 (v0 : Nat) (h : Hp) {x : Cx} {o : (Hp ⊕ Hp)} (e : F_X6_lookAtNext_l8 v0 h = some o) (kI : ∀ z, o = .inl z → V M_X6_lookAtNext x 1 8 [(0, .ref v0)] [] z 0 0) (kE46 : ∀ z : Hp, o = .inr z → V M_X6_lookAtNext x 1 46 [(0, .ref v0)] [] z 0 0) : V M_X6_lookAtNext x 1 8 [(0, .ref v0)] [] h 0 0 := by
  unfold F_X6_lookAtNext_l8 at e
  refine V_aload_n (pc := 8) (i := 0) dX6_lookAtNext_8 rfl rfl ?_
  obtain ⟨g2, e⟩ := gd_some e
  refine V_getI (pc := 9) (ci := 6) (k := 3) dX6_lookAtNext_9 fl_X6_22 rfl (of_decide_eq_true g2) ?_
  refine V_aload_n (pc := 12) (i := 0) dX6_lookAtNext_12 rfl rfl ?_
  refine V_getI (pc := 13) (ci := 6) (k := 1) dX6_lookAtNext_13 fl_X6_15 rfl (of_decide_eq_true g2) ?_
  refine V_icmp_ge (pc := 16) (tgt := 46) dX6_lookAtNext_16 (by decide) (fun c8 => ?_) (fun c8 => ?_)
  · rw [if_pos c8] at e
    cases e
    exact V_pick [0] rfl (kE46 h rfl)
  · rw [if_neg c8] at e
    refine V_pick [0] rfl ?_
    refine V_aload_n (pc := 19) (i := 0) dX6_lookAtNext_19 rfl rfl ?_
    obtain ⟨q3, g4, e⟩ := ob_some e
    refine V_getR (pc := 20) (ci := 6) (k := 0) (b := q3) dX6_lookAtNext_20 fl_X6_9 rfl (of_decide_eq_true g2) g4 ?_
    refine V_aload_n (pc := 23) (i := 0) dX6_lookAtNext_23 rfl rfl ?_
    refine V_getI (pc := 24) (ci := 6) (k := 3) dX6_lookAtNext_24 fl_X6_22 rfl (of_decide_eq_true g2) ?_
    obtain ⟨g5, e⟩ := gd_some e
    obtain ⟨g6, e⟩ := gd_some e
    refine V_bald (pc := 27) dX6_lookAtNext_27 (of_decide_eq_true g5) (ix_in g6) ?_
    refine V_bipush (pc := 28) (v := (32 : Int32)) dX6_lookAtNext_28 (by decide) ?_
    refine V_icmp_ne (pc := 30) (tgt := 46) dX6_lookAtNext_30 (by decide) (fun c7 => ?_) (fun c7 => ?_)
    · rw [if_neg c7] at e
      cases e
      exact V_pick [0] rfl (kE46 h rfl)
    · rw [if_pos c7] at e
      refine V_pick [0] rfl ?_
      refine V_aload_n (pc := 33) (i := 0) dX6_lookAtNext_33 rfl rfl ?_
      refine V_dup (pc := 34) dX6_lookAtNext_34 rfl ?_
      refine V_getI (pc := 35) (ci := 6) (k := 3) dX6_lookAtNext_35 fl_X6_22 rfl (of_decide_eq_true g2) ?_
      refine V_iconst (pc := 38) (v := (1 : Int32)) dX6_lookAtNext_38 (by decide) ?_
      refine V_iadd (pc := 39) dX6_lookAtNext_39 ?_
      refine V_putI (pc := 40) (ci := 6) (k := 3) dX6_lookAtNext_40 fp_X6_22 rfl (of_decide_eq_true g2) ?_
      refine V_goto (pc := 43) (tgt := 8) dX6_lookAtNext_43 (by decide) ?_
      cases e
      exact V_pick [0] rfl (kI (setI h v0 3 ((zI h v0 3) + (1 : Int32))) rfl)
set_option maxRecDepth 100000 in
def F_X6_lookAtNext_l54 (v0 : Nat) (h : Hp) : Option (Hp ⊕ Hp) :=
  gd (decide (kd h v0 = 6)) <| (if (zI h v0 1) ≤ (zI h v0 4) then some (.inr h) else ob (zR h v0 0) fun q12 => gd (decide (kd h q12 = 12)) <| gd (ix (zI h v0 4) (zl h q12)) <| (if (zI h q12 (zI h v0 4).toNatClampNeg) < (97 : Int32) then some (.inr h) else ob (zR h v0 0) fun q16 => gd (decide (kd h q16 = 12)) <| gd (ix (zI h v0 4) (zl h q16)) <| (if (122 : Int32) < (zI h q16 (zI h v0 4).toNatClampNeg) then some (.inr h) else some (.inl (setI h v0 4 ((zI h v0 4) + (1 : Int32)))))))
set_option maxHeartbeats 4000000 in
set_option maxRecDepth 100000 in
theorem r_X6_lookAtNext_l54 (v0 : Nat) (h : Hp) {x : Cx} {o : (Hp ⊕ Hp)} (e : F_X6_lookAtNext_l54 v0 h = some o) (kI : ∀ z, o = .inl z → V M_X6_lookAtNext x 1 54 [(0, .ref v0)] [] z 0 0) (kE106 : ∀ z : Hp, o = .inr z → V M_X6_lookAtNext x 1 106 [(0, .ref v0)] [] z 0 0) : V M_X6_lookAtNext x 1 54 [(0, .ref v0)] [] h 0 0 := by
  unfold F_X6_lookAtNext_l54 at e
  refine V_aload_n (pc := 54) (i := 0) dX6_lookAtNext_54 rfl rfl ?_
  obtain ⟨g11, e⟩ := gd_some e
  refine V_getI (pc := 55) (ci := 6) (k := 4) dX6_lookAtNext_55 fl_X6_25 rfl (of_decide_eq_true g11) ?_
  refine V_aload_n (pc := 58) (i := 0) dX6_lookAtNext_58 rfl rfl ?_
  refine V_getI (pc := 59) (ci := 6) (k := 1) dX6_lookAtNext_59 fl_X6_15 rfl (of_decide_eq_true g11) ?_
  refine V_icmp_ge (pc := 62) (tgt := 106) dX6_lookAtNext_62 (by decide) (fun c22 => ?_) (fun c22 => ?_)
  · rw [if_pos c22] at e
    cases e
    exact V_pick [0] rfl (kE106 h rfl)
  · rw [if_neg c22] at e
    refine V_pick [0] rfl ?_
    refine V_aload_n (pc := 65) (i := 0) dX6_lookAtNext_65 rfl rfl ?_
    obtain ⟨q12, g13, e⟩ := ob_some e
    refine V_getR (pc := 66) (ci := 6) (k := 0) (b := q12) dX6_lookAtNext_66 fl_X6_9 rfl (of_decide_eq_true g11) g13 ?_
    refine V_aload_n (pc := 69) (i := 0) dX6_lookAtNext_69 rfl rfl ?_
    refine V_getI (pc := 70) (ci := 6) (k := 4) dX6_lookAtNext_70 fl_X6_25 rfl (of_decide_eq_true g11) ?_
    obtain ⟨g14, e⟩ := gd_some e
    obtain ⟨g15, e⟩ := gd_some e
    refine V_bald (pc := 73) dX6_lookAtNext_73 (of_decide_eq_true g14) (ix_in g15) ?_
    refine V_bipush (pc := 74) (v := (97 : Int32)) dX6_lookAtNext_74 (by decide) ?_
    refine V_icmp_lt (pc := 76) (tgt := 106) dX6_lookAtNext_76 (by decide) (fun c21 => ?_) (fun c21 => ?_)
    · rw [if_pos c21] at e
      cases e
      exact V_pick [0] rfl (kE106 h rfl)
    · rw [if_neg c21] at e
      refine V_pick [0] rfl ?_
      refine V_aload_n (pc := 79) (i := 0) dX6_lookAtNext_79 rfl rfl ?_
      obtain ⟨q16, g17, e⟩ := ob_some e
      refine V_getR (pc := 80) (ci := 6) (k := 0) (b := q16) dX6_lookAtNext_80 fl_X6_9 rfl (of_decide_eq_true g11) g17 ?_
      refine V_aload_n (pc := 83) (i := 0) dX6_lookAtNext_83 rfl rfl ?_
      refine V_getI (pc := 84) (ci := 6) (k := 4) dX6_lookAtNext_84 fl_X6_25 rfl (of_decide_eq_true g11) ?_
      obtain ⟨g18, e⟩ := gd_some e
      obtain ⟨g19, e⟩ := gd_some e
      refine V_bald (pc := 87) dX6_lookAtNext_87 (of_decide_eq_true g18) (ix_in g19) ?_
      refine V_bipush (pc := 88) (v := (122 : Int32)) dX6_lookAtNext_88 (by decide) ?_
      refine V_icmp_gt (pc := 90) (tgt := 106) dX6_lookAtNext_90 (by decide) (fun c20 => ?_) (fun c20 => ?_)
      · rw [if_pos c20] at e
        cases e
        exact V_pick [0] rfl (kE106 h rfl)
      · rw [if_neg c20] at e
        refine V_pick [0] rfl ?_
        refine V_aload_n (pc := 93) (i := 0) dX6_lookAtNext_93 rfl rfl ?_
        refine V_dup (pc := 94) dX6_lookAtNext_94 rfl ?_
        refine V_getI (pc := 95) (ci := 6) (k := 4) dX6_lookAtNext_95 fl_X6_25 rfl (of_decide_eq_true g11) ?_
        refine V_iconst (pc := 98) (v := (1 : Int32)) dX6_lookAtNext_98 (by decide) ?_
        refine V_iadd (pc := 99) dX6_lookAtNext_99 ?_
        refine V_putI (pc := 100) (ci := 6) (k := 4) dX6_lookAtNext_100 fp_X6_25 rfl (of_decide_eq_true g11) ?_
        refine V_goto (pc := 103) (tgt := 54) dX6_lookAtNext_103 (by decide) ?_
        cases e
        exact V_pick [0] rfl (kI (setI h v0 4 ((zI h v0 4) + (1 : Int32))) rfl)
set_option maxRecDepth 100000 in
def F_X6_lookAtNext_l123 (v0 : Nat) (h : Hp) : Option (Hp ⊕ Hp) :=
  gd (decide (kd h v0 = 6)) <| (if (zI h v0 1) ≤ (zI h v0 4) then some (.inr h) else ob (zR h v0 0) fun q26 => gd (decide (kd h q26 = 12)) <| gd (ix (zI h v0 4) (zl h q26)) <| (if (zI h q26 (zI h v0 4).toNatClampNeg) < (48 : Int32) then some (.inr h) else ob (zR h v0 0) fun q30 => gd (decide (kd h q30 = 12)) <| gd (ix (zI h v0 4) (zl h q30)) <| (if (57 : Int32) < (zI h q30 (zI h v0 4).toNatClampNeg) then some (.inr h) else some (.inl (setI h v0 4 ((zI h v0 4) + (1 : Int32)))))))
set_option maxHeartbeats 4000000 in
set_option maxRecDepth 100000 in
theorem r_X6_lookAtNext_l123 (v0 : Nat) (h : Hp) {x : Cx} {o : (Hp ⊕ Hp)} (e : F_X6_lookAtNext_l123 v0 h = some o) (kI : ∀ z, o = .inl z → V M_X6_lookAtNext x 1 123 [(0, .ref v0)] [] z 0 0) (kE175 : ∀ z : Hp, o = .inr z → V M_X6_lookAtNext x 1 175 [(0, .ref v0)] [] z 0 0) : V M_X6_lookAtNext x 1 123 [(0, .ref v0)] [] h 0 0 := by
  unfold F_X6_lookAtNext_l123 at e
  refine V_aload_n (pc := 123) (i := 0) dX6_lookAtNext_123 rfl rfl ?_
  obtain ⟨g25, e⟩ := gd_some e
  refine V_getI (pc := 124) (ci := 6) (k := 4) dX6_lookAtNext_124 fl_X6_25 rfl (of_decide_eq_true g25) ?_
  refine V_aload_n (pc := 127) (i := 0) dX6_lookAtNext_127 rfl rfl ?_
  refine V_getI (pc := 128) (ci := 6) (k := 1) dX6_lookAtNext_128 fl_X6_15 rfl (of_decide_eq_true g25) ?_
  refine V_icmp_ge (pc := 131) (tgt := 175) dX6_lookAtNext_131 (by decide) (fun c36 => ?_) (fun c36 => ?_)
  · rw [if_pos c36] at e
    cases e
    exact V_pick [0] rfl (kE175 h rfl)
  · rw [if_neg c36] at e
    refine V_pick [0] rfl ?_
    refine V_aload_n (pc := 134) (i := 0) dX6_lookAtNext_134 rfl rfl ?_
    obtain ⟨q26, g27, e⟩ := ob_some e
    refine V_getR (pc := 135) (ci := 6) (k := 0) (b := q26) dX6_lookAtNext_135 fl_X6_9 rfl (of_decide_eq_true g25) g27 ?_
    refine V_aload_n (pc := 138) (i := 0) dX6_lookAtNext_138 rfl rfl ?_
    refine V_getI (pc := 139) (ci := 6) (k := 4) dX6_lookAtNext_139 fl_X6_25 rfl (of_decide_eq_true g25) ?_
    obtain ⟨g28, e⟩ := gd_some e
    obtain ⟨g29, e⟩ := gd_some e
    refine V_bald (pc := 142) dX6_lookAtNext_142 (of_decide_eq_true g28) (ix_in g29) ?_
    refine V_bipush (pc := 143) (v := (48 : Int32)) dX6_lookAtNext_143 (by decide) ?_
    refine V_icmp_lt (pc := 145) (tgt := 175) dX6_lookAtNext_145 (by decide) (fun c35 => ?_) (fun c35 => ?_)
    · rw [if_pos c35] at e
      cases e
      exact V_pick [0] rfl (kE175 h rfl)
    · rw [if_neg c35] at e
      refine V_pick [0] rfl ?_
      refine V_aload_n (pc := 148) (i := 0) dX6_lookAtNext_148 rfl rfl ?_
      obtain ⟨q30, g31, e⟩ := ob_some e
      refine V_getR (pc := 149) (ci := 6) (k := 0) (b := q30) dX6_lookAtNext_149 fl_X6_9 rfl (of_decide_eq_true g25) g31 ?_
      refine V_aload_n (pc := 152) (i := 0) dX6_lookAtNext_152 rfl rfl ?_
      refine V_getI (pc := 153) (ci := 6) (k := 4) dX6_lookAtNext_153 fl_X6_25 rfl (of_decide_eq_true g25) ?_
      obtain ⟨g32, e⟩ := gd_some e
      obtain ⟨g33, e⟩ := gd_some e
      refine V_bald (pc := 156) dX6_lookAtNext_156 (of_decide_eq_true g32) (ix_in g33) ?_
      refine V_bipush (pc := 157) (v := (57 : Int32)) dX6_lookAtNext_157 (by decide) ?_
      refine V_icmp_gt (pc := 159) (tgt := 175) dX6_lookAtNext_159 (by decide) (fun c34 => ?_) (fun c34 => ?_)
      · rw [if_pos c34] at e
        cases e
        exact V_pick [0] rfl (kE175 h rfl)
      · rw [if_neg c34] at e
        refine V_pick [0] rfl ?_
        refine V_aload_n (pc := 162) (i := 0) dX6_lookAtNext_162 rfl rfl ?_
        refine V_dup (pc := 163) dX6_lookAtNext_163 rfl ?_
        refine V_getI (pc := 164) (ci := 6) (k := 4) dX6_lookAtNext_164 fl_X6_25 rfl (of_decide_eq_true g25) ?_
        refine V_iconst (pc := 167) (v := (1 : Int32)) dX6_lookAtNext_167 (by decide) ?_
        refine V_iadd (pc := 168) dX6_lookAtNext_168 ?_
        refine V_putI (pc := 169) (ci := 6) (k := 4) dX6_lookAtNext_169 fp_X6_25 rfl (of_decide_eq_true g25) ?_
        refine V_goto (pc := 172) (tgt := 123) dX6_lookAtNext_172 (by decide) ?_
        cases e
        exact V_pick [0] rfl (kI (setI h v0 4 ((zI h v0 4) + (1 : Int32))) rfl)
set_option maxRecDepth 100000 in
def F_X6_lookAtNext_b209 (v0 : Nat) (t0 : Nat) (t1 : Int32) (h : Hp) : Option (Unit × Hp) :=
  gd (decide (kd h t0 = 6)) <| gd (decide (kd (setI h t0 2 t1) v0 = 6)) <| some ((), setI (setI h t0 2 t1) v0 4 (jmin (zI (setI h t0 2 t1) v0 1) ((zI (setI h t0 2 t1) v0 3) + (1 : Int32))))
set_option maxHeartbeats 4000000 in
set_option maxRecDepth 100000 in
theorem r_X6_lookAtNext_b209 (v0 : Nat) (t0 : Nat) (t1 : Int32) (h : Hp) {x : Cx} {r : Unit} {hz : Hp} (e : F_X6_lookAtNext_b209 v0 t0 t1 h = some (r, hz)) (hF : Fin9 M_X6_lookAtNext x none none hz) : V M_X6_lookAtNext x 1 209 [(0, .ref v0)] [.int t1, .ref t0] h 0 0 := by
  unfold F_X6_lookAtNext_b209 at e
  obtain ⟨g39, e⟩ := gd_some e
  refine V_putI (pc := 209) (ci := 6) (k := 2) dX6_lookAtNext_209 fp_X6_19 rfl (of_decide_eq_true g39) ?_
  refine V_aload_n (pc := 212) (i := 0) dX6_lookAtNext_212 rfl rfl ?_
  refine V_aload_n (pc := 213) (i := 0) dX6_lookAtNext_213 rfl rfl ?_
  obtain ⟨g40, e⟩ := gd_some e
  refine V_getI (pc := 214) (ci := 6) (k := 1) dX6_lookAtNext_214 fl_X6_15 rfl (of_decide_eq_true g40) ?_
  refine V_aload_n (pc := 217) (i := 0) dX6_lookAtNext_217 rfl rfl ?_
  refine V_getI (pc := 218) (ci := 6) (k := 3) dX6_lookAtNext_218 fl_X6_22 rfl (of_decide_eq_true g40) ?_
  refine V_iconst (pc := 221) (v := (1 : Int32)) dX6_lookAtNext_221 (by decide) ?_
  refine V_iadd (pc := 222) dX6_lookAtNext_222 ?_
  refine V_min (pc := 223) dX6_lookAtNext_223 wm_X6_37 (by decide) (Nat.le_of_ble_eq_true rfl) ?_
  refine V_putI (pc := 226) (ci := 6) (k := 4) dX6_lookAtNext_226 fp_X6_25 rfl (of_decide_eq_true g40) ?_
  cases e
  exact V_vret (pc := 229) dX6_lookAtNext_229 hF
set_option maxRecDepth 100000 in
def F_X6_lookAtNext_b175 (v0 : Nat) (h : Hp) : Option (Unit × Hp) :=
  gd (decide (kd h v0 = 6)) <| (if (zI h v0 4) ≤ (zI h v0 3) then (if (zI h v0 1) ≤ (zI h v0 3) then F_X6_lookAtNext_b209 v0 v0 (0 : Int32) h else F_X6_lookAtNext_b209 v0 v0 (3 : Int32) h) else some ((), setI h v0 2 (2 : Int32)))
set_option maxHeartbeats 4000000 in
set_option maxRecDepth 100000 in
theorem r_X6_lookAtNext_b175 (v0 : Nat) (h : Hp) {x : Cx} {r : Unit} {hz : Hp} (e : F_X6_lookAtNext_b175 v0 h = some (r, hz)) (hF : Fin9 M_X6_lookAtNext x none none hz) : V M_X6_lookAtNext x 1 175 [(0, .ref v0)] [] h 0 0 := by
  unfold F_X6_lookAtNext_b175 at e
  refine V_aload_n (pc := 175) (i := 0) dX6_lookAtNext_175 rfl rfl ?_
  obtain ⟨g38, e⟩ := gd_some e
  refine V_getI (pc := 176) (ci := 6) (k := 4) dX6_lookAtNext_176 fl_X6_25 rfl (of_decide_eq_true g38) ?_
  refine V_aload_n (pc := 179) (i := 0) dX6_lookAtNext_179 rfl rfl ?_
  refine V_getI (pc := 180) (ci := 6) (k := 3) dX6_lookAtNext_180 fl_X6_22 rfl (of_decide_eq_true g38) ?_
  refine V_icmp_le (pc := 183) (tgt := 192) dX6_lookAtNext_183 (by decide) (fun c42 => ?_) (fun c42 => ?_)
  · rw [if_pos c42] at e
    refine V_pick [0] rfl ?_
    refine V_aload_n (pc := 192) (i := 0) dX6_lookAtNext_192 rfl rfl ?_
    refine V_aload_n (pc := 193) (i := 0) dX6_lookAtNext_193 rfl rfl ?_
    refine V_getI (pc := 194) (ci := 6) (k := 3) dX6_lookAtNext_194 fl_X6_22 rfl (of_decide_eq_true g38) ?_
    refine V_aload_n (pc := 197) (i := 0) dX6_lookAtNext_197 rfl rfl ?_
    refine V_getI (pc := 198) (ci := 6) (k := 1) dX6_lookAtNext_198 fl_X6_15 rfl (of_decide_eq_true g38) ?_
    refine V_icmp_ge (pc := 201) (tgt := 208) dX6_lookAtNext_201 (by decide) (fun c41 => ?_) (fun c41 => ?_)
    · rw [if_pos c41] at e
      refine V_pick [0] rfl ?_
      refine V_iconst (pc := 208) (v := (0 : Int32)) dX6_lookAtNext_208 (by decide) ?_
      exact V_pick [0] rfl (r_X6_lookAtNext_b209 v0 v0 (0 : Int32) h e hF)
    · rw [if_neg c41] at e
      refine V_pick [0] rfl ?_
      refine V_iconst (pc := 204) (v := (3 : Int32)) dX6_lookAtNext_204 (by decide) ?_
      refine V_goto (pc := 205) (tgt := 209) dX6_lookAtNext_205 (by decide) ?_
      exact V_pick [0] rfl (r_X6_lookAtNext_b209 v0 v0 (3 : Int32) h e hF)
  · rw [if_neg c42] at e
    refine V_pick [0] rfl ?_
    refine V_aload_n (pc := 186) (i := 0) dX6_lookAtNext_186 rfl rfl ?_
    refine V_iconst (pc := 187) (v := (2 : Int32)) dX6_lookAtNext_187 (by decide) ?_
    refine V_putI (pc := 188) (ci := 6) (k := 2) dX6_lookAtNext_188 fp_X6_19 rfl (of_decide_eq_true g38) ?_
    cases e
    exact V_vret (pc := 191) dX6_lookAtNext_191 hF
set_option maxRecDepth 100000 in
def F_X6_lookAtNext_b106 (v0 : Nat) (h : Hp) : Option (Unit × Hp) :=
  gd (decide (kd h v0 = 6)) <| (if (zI h v0 4) ≤ (zI h v0 3) then ob (iter (fun z : Hp => F_X6_lookAtNext_l123 v0 z) FU h) (fun h37 => F_X6_lookAtNext_b175 v0 h37) else some ((), setI h v0 2 (1 : Int32)))
set_option maxHeartbeats 4000000 in
set_option maxRecDepth 100000 in
theorem r_X6_lookAtNext_b106 (v0 : Nat) (h : Hp) {x : Cx} {r : Unit} {hz : Hp} (e : F_X6_lookAtNext_b106 v0 h = some (r, hz)) (hF : Fin9 M_X6_lookAtNext x none none hz) : V M_X6_lookAtNext x 1 106 [(0, .ref v0)] [] h 0 0 := by
  unfold F_X6_lookAtNext_b106 at e
  refine V_aload_n (pc := 106) (i := 0) dX6_lookAtNext_106 rfl rfl ?_
  obtain ⟨g24, e⟩ := gd_some e
  refine V_getI (pc := 107) (ci := 6) (k := 4) dX6_lookAtNext_107 fl_X6_25 rfl (of_decide_eq_true g24) ?_
  refine V_aload_n (pc := 110) (i := 0) dX6_lookAtNext_110 rfl rfl ?_
  refine V_getI (pc := 111) (ci := 6) (k := 3) dX6_lookAtNext_111 fl_X6_22 rfl (of_decide_eq_true g24) ?_
  refine V_icmp_le (pc := 114) (tgt := 123) dX6_lookAtNext_114 (by decide) (fun c45 => ?_) (fun c45 => ?_)
  · rw [if_pos c45] at e
    refine V_pick [0] rfl ?_
    obtain ⟨y43, g44, e⟩ := ob_some e
    refine iter_V (P := fun z : Hp => V M_X6_lookAtNext x 1 123 [(0, .ref v0)] [] z 0 0) (E := fun z : Hp => V M_X6_lookAtNext x 1 175 [(0, .ref v0)] [] z 0 0) (fun z o e9 k1 k2 => r_X6_lookAtNext_l123 v0 z e9 (fun z hz9 => k1 z hz9) (fun z hz9 => k2 _ hz9)) _ _ _ g44 ?_
    clear g44
    obtain ⟨h37, rfl⟩ : ∃ q, q = y43 := ⟨_, rfl⟩
    replace e : (F_X6_lookAtNext_b175 v0 h37) = some (r, hz) := e
    show V M_X6_lookAtNext x 1 175 [(0, .ref v0)] [] h37 0 0
    exact V_pick [0] rfl (r_X6_lookAtNext_b175 v0 h37 e hF)
  · rw [if_neg c45] at e
    refine V_pick [0] rfl ?_
    refine V_aload_n (pc := 117) (i := 0) dX6_lookAtNext_117 rfl rfl ?_
    refine V_iconst (pc := 118) (v := (1 : Int32)) dX6_lookAtNext_118 (by decide) ?_
    refine V_putI (pc := 119) (ci := 6) (k := 2) dX6_lookAtNext_119 fp_X6_19 rfl (of_decide_eq_true g24) ?_
    cases e
    exact V_vret (pc := 122) dX6_lookAtNext_122 hF
set_option maxRecDepth 100000 in
def F_X6_lookAtNext_b46 (v0 : Nat) (h : Hp) : Option (Unit × Hp) :=
  gd (decide (kd h v0 = 6)) <| ob (iter (fun z : Hp => F_X6_lookAtNext_l54 v0 z) FU (setI h v0 4 (zI h v0 3))) (fun h23 => F_X6_lookAtNext_b106 v0 h23)
set_option maxHeartbeats 4000000 in
set_option maxRecDepth 100000 in
theorem r_X6_lookAtNext_b46 (v0 : Nat) (h : Hp) {x : Cx} {r : Unit} {hz : Hp} (e : F_X6_lookAtNext_b46 v0 h = some (r, hz)) (hF : Fin9 M_X6_lookAtNext x none none hz) : V M_X6_lookAtNext x 1 46 [(0, .ref v0)] [] h 0 0 := by
  unfold F_X6_lookAtNext_b46 at e
  refine V_aload_n (pc := 46) (i := 0) dX6_lookAtNext_46 rfl rfl ?_
  refine V_aload_n (pc := 47) (i := 0) dX6_lookAtNext_47 rfl rfl ?_
  obtain ⟨g10, e⟩ := gd_some e
  refine V_getI (pc := 48) (ci := 6) (k := 3) dX6_lookAtNext_48 fl_X6_22 rfl (of_decide_eq_true g10) ?_
  refine V_putI (pc := 51) (ci := 6) (k := 4) dX6_lookAtNext_51 fp_X6_25 rfl (of_decide_eq_true g10) ?_
  refine V_pick [0] rfl ?_
  obtain ⟨y46, g47, e⟩ := ob_some e
  refine iter_V (P := fun z : Hp => V M_X6_lookAtNext x 1 54 [(0, .ref v0)] [] z 0 0) (E := fun z : Hp => V M_X6_lookAtNext x 1 106 [(0, .ref v0)] [] z 0 0) (fun z o e9 k1 k2 => r_X6_lookAtNext_l54 v0 z e9 (fun z hz9 => k1 z hz9) (fun z hz9 => k2 _ hz9)) _ _ _ g47 ?_
  clear g47
  obtain ⟨h23, rfl⟩ : ∃ q, q = y46 := ⟨_, rfl⟩
  replace e : (F_X6_lookAtNext_b106 v0 h23) = some (r, hz) := e
  show V M_X6_lookAtNext x 1 106 [(0, .ref v0)] [] h23 0 0
  exact V_pick [0] rfl (r_X6_lookAtNext_b106 v0 h23 e hF)
set_option maxRecDepth 100000 in
def F_X6_lookAtNext_b0 (v0 : Nat) (h : Hp) : Option (Unit × Hp) :=
  gd (decide (kd h v0 = 6)) <| ob (iter (fun z : Hp => F_X6_lookAtNext_l8 v0 z) FU (setI h v0 3 (zI h v0 4))) (fun h9 => F_X6_lookAtNext_b46 v0 h9)
set_option maxHeartbeats 4000000 in
set_option maxRecDepth 100000 in
theorem r_X6_lookAtNext_b0 (v0 : Nat) (h : Hp) {x : Cx} {r : Unit} {hz : Hp} (e : F_X6_lookAtNext_b0 v0 h = some (r, hz)) (hF : Fin9 M_X6_lookAtNext x none none hz) : V M_X6_lookAtNext x 1 0 [(0, .ref v0)] [] h 0 0 := by
  unfold F_X6_lookAtNext_b0 at e
  refine V_aload_n (pc := 0) (i := 0) dX6_lookAtNext_0 rfl rfl ?_
  refine V_aload_n (pc := 1) (i := 0) dX6_lookAtNext_1 rfl rfl ?_
  obtain ⟨g1, e⟩ := gd_some e
  refine V_getI (pc := 2) (ci := 6) (k := 4) dX6_lookAtNext_2 fl_X6_25 rfl (of_decide_eq_true g1) ?_
  refine V_putI (pc := 5) (ci := 6) (k := 3) dX6_lookAtNext_5 fp_X6_22 rfl (of_decide_eq_true g1) ?_
  refine V_pick [0] rfl ?_
  obtain ⟨y48, g49, e⟩ := ob_some e
  refine iter_V (P := fun z : Hp => V M_X6_lookAtNext x 1 8 [(0, .ref v0)] [] z 0 0) (E := fun z : Hp => V M_X6_lookAtNext x 1 46 [(0, .ref v0)] [] z 0 0) (fun z o e9 k1 k2 => r_X6_lookAtNext_l8 v0 z e9 (fun z hz9 => k1 z hz9) (fun z hz9 => k2 _ hz9)) _ _ _ g49 ?_
  clear g49
  obtain ⟨h9, rfl⟩ : ∃ q, q = y48 := ⟨_, rfl⟩
  replace e : (F_X6_lookAtNext_b46 v0 h9) = some (r, hz) := e
  show V M_X6_lookAtNext x 1 46 [(0, .ref v0)] [] h9 0 0
  exact V_pick [0] rfl (r_X6_lookAtNext_b46 v0 h9 e hF)
def F_X6_lookAtNext (v0 : Nat) (h : Hp) : Option (Unit × Hp) := F_X6_lookAtNext_b0 v0 h
theorem c_X6_lookAtNext {l : Launch} (v0 : Nat) (h : Hp) {r : Unit} {hz : Hp} (e : F_X6_lookAtNext v0 h = some (r, hz)) : Ct l yX6_lookAtNext M_X6_lookAtNext none 1 [.ref v0] h 0 0 none hz :=
  Ct_of rfl rfl (fun q => by cases q) (Nat.le_of_ble_eq_true rfl) (fun x _ hF => V_pick [0] rfl (r_X6_lookAtNext_b0 v0 h e hF))
