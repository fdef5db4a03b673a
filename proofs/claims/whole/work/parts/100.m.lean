theorem dX11_end_0 : decode cX11_end 0 = .ok (.iload_n 1, 1) := by decide +kernel
theorem dX11_end_1 : decode cX11_end 1 = .ok (.ifCond .lt 14, 3) := by decide +kernel
theorem dX11_end_4 : decode cX11_end 4 = .ok (.iload_n 1, 1) := by decide +kernel
theorem dX11_end_5 : decode cX11_end 5 = .ok (.aload_n 0, 1) := by decide +kernel
theorem dX11_end_6 : decode cX11_end 6 = .ok (.getfield 10, 3) := by decide +kernel
theorem dX11_end_9 : decode cX11_end 9 = .ok (.getfield 75, 3) := by decide +kernel
theorem dX11_end_12 : decode cX11_end 12 = .ok (.if_icmp .le 5, 3) := by decide +kernel
theorem dX11_end_15 : decode cX11_end 15 = .ok (.iconst 0, 1) := by decide +kernel
theorem dX11_end_16 : decode cX11_end 16 = .ok (.ireturn, 1) := by decide +kernel
theorem dX11_end_17 : decode cX11_end 17 = .ok (.aload_n 0, 1) := by decide +kernel
theorem dX11_end_18 : decode cX11_end 18 = .ok (.getfield 10, 3) := by decide +kernel
theorem dX11_end_21 : decode cX11_end 21 = .ok (.iload_n 1, 1) := by decide +kernel
theorem dX11_end_22 : decode cX11_end 22 = .ok (.putfield 75, 3) := by decide +kernel
theorem dX11_end_25 : decode cX11_end 25 = .ok (.iconst 1, 1) := by decide +kernel
theorem dX11_end_26 : decode cX11_end 26 = .ok (.ireturn, 1) := by decide +kernel
set_option maxRecDepth 100000 in
def F_X11_end_b15  (h : Hp) : Option (Int32 × Hp) :=
  some ((0 : Int32), h)
set_option maxHeartbeats 4000000 in
set_option maxRecDepth 100000 in
theorem r_X11_end_b15  (h : Hp) {x : Cx} {r : Int32} {hz : Hp} (e : F_X11_end_b15  h = some (r, hz)) (hF : Fin9 M_X11_end x (some .boolean) (some (.int r)) hz) : V M_X11_end x 0 15 [] [] h 0 0 := by
  unfold F_X11_end_b15 at e
  refine V_iconst (pc := 15) (v := (0 : Int32)) dX11_end_15 (by decide) ?_
  cases e
  exact V_zret (pc := 16) dX11_end_16 rfl hF
set_option maxRecDepth 100000 in
def F_X11_end_b0 (v0 : Nat) (v1 : Int32) (h : Hp) : Option (Int32 × Hp) :=
  (if v1 < 0 then F_X11_end_b15 h else gd (decide (kd h v0 = 10)) <| ob (zR h v0 0) fun q2 => gd (decide (kd h q2 = 6)) <| (if v1 ≤ (zI h q2 1) then ob (zR h v0 0) fun q5 => gd (decide (kd h q5 = 6)) <| some ((1 : Int32), setI h q5 1 v1) else F_X11_end_b15 h))
set_option maxHeartbeats 4000000 in
set_option maxRecDepth 100000 in
theorem r_X11_end_b0 (v0 : Nat) (v1 : Int32) (h : Hp) {x : Cx} {r : Int32} {hz : Hp} (e : F_X11_end_b0 v0 v1 h = some (r, hz)) (hF : Fin9 M_X11_end x (some .boolean) (some (.int r)) hz) : V M_X11_end x 0 0 [(0, .ref v0), (1, .int v1)] [] h 0 0 := by
  unfold F_X11_end_b0 at e
  refine V_iload_n (pc := 0) (i := 1) dX11_end_0 rfl rfl ?_
  refine V_if_lt (pc := 1) (tgt := 15) dX11_end_1 (by decide) (fun c9 => ?_) (fun c9 => ?_)
  · rw [if_pos c9] at e
    exact V_pick [] rfl (r_X11_end_b15 h e hF)
  · rw [if_neg c9] at e
    refine V_pick [0, 1] rfl ?_
    refine V_iload_n (pc := 4) (i := 1) dX11_end_4 rfl rfl ?_
    refine V_aload_n (pc := 5) (i := 0) dX11_end_5 rfl rfl ?_
    obtain ⟨g1, e⟩ := gd_some e
    obtain ⟨q2, g3, e⟩ := ob_some e
    refine V_getR (pc := 6) (ci := 10) (k := 0) (b := q2) dX11_end_6 fl_X11_10 rfl (of_decide_eq_true g1) g3 ?_
    obtain ⟨g4, e⟩ := gd_some e
    refine V_getI (pc := 9) (ci := 6) (k := 1) dX11_end_9 fl_X11_75 rfl (of_decide_eq_true g4) ?_
    refine V_icmp_le (pc := 12) (tgt := 17) dX11_end_12 (by decide) (fun c8 => ?_) (fun c8 => ?_)
    · rw [if_pos c8] at e
      refine V_pick [0, 1] rfl ?_
      refine V_aload_n (pc := 17) (i := 0) dX11_end_17 rfl rfl ?_
      obtain ⟨q5, g6, e⟩ := ob_some e
      refine V_getR (pc := 18) (ci := 10) (k := 0) (b := q5) dX11_end_18 fl_X11_10 rfl (of_decide_eq_true g1) g6 ?_
      refine V_iload_n (pc := 21) (i := 1) dX11_end_21 rfl rfl ?_
      obtain ⟨g7, e⟩ := gd_some e
      refine V_putI (pc := 22) (ci := 6) (k := 1) dX11_end_22 fp_X11_75 rfl (of_decide_eq_true g7) ?_
      refine V_iconst (pc := 25) (v := (1 : Int32)) dX11_end_25 (by decide) ?_
      cases e
      exact V_zret (pc := 26) dX11_end_26 rfl hF
    · rw [if_neg c8] at e
      exact V_pick [] rfl (r_X11_end_b15 h e hF)
def F_X11_end (v0 : Nat) (v1 : Int32) (h : Hp) : Option (Int32 × Hp) := F_X11_end_b0 v0 v1 h
theorem c_X11_end {l : Launch} (v0 : Nat) (v1 : Int32) (h : Hp) {r : Int32} {hz : Hp} (e : F_X11_end v0 v1 h = some (r, hz)) : Ct l yX11_end M_X11_end (some .boolean) 0 [.ref v0, .int v1] h 0 0 (some (.int r)) hz :=
  Ct_of rfl rfl (fun q => by cases q) (Nat.le_of_ble_eq_true rfl) (fun x _ hF => V_pick [0, 1] rfl (r_X11_end_b0 v0 v1 h e hF))
theorem dX11_fault_0 : decode cX11_fault 0 = .ok (.aload_n 0, 1) := by decide +kernel
theorem dX11_fault_1 : decode cX11_fault 1 = .ok (.getfield 10, 3) := by decide +kernel
theorem dX11_fault_4 : decode cX11_fault 4 = .ok (.getfield 141, 3) := by decide +kernel
theorem dX11_fault_7 : decode cX11_fault 7 = .ok (.ireturn, 1) := by decide +kernel
set_option maxRecDepth 100000 in
def F_X11_fault_b0 (v0 : Nat) (h : Hp) : Option Int32 :=
  gd (decide (kd h v0 = 10)) <| ob (zR h v0 0) fun q2 => gd (decide (kd h q2 = 6)) <| some (zI h q2 6)
set_option maxHeartbeats 4000000 in
set_option maxRecDepth 100000 in
theorem r_X11_fault_b0 (v0 : Nat) (h : Hp) {x : Cx} {r : Int32} (e : F_X11_fault_b0 v0 h = some r) (hF : Fin9 M_X11_fault x (some .int) (some (.int r)) h) : V M_X11_fault x 0 0 [(0, .ref v0)] [] h 0 0 := by
  unfold F_X11_fault_b0 at e
  refine V_aload_n (pc := 0) (i := 0) dX11_fault_0 rfl rfl ?_
  obtain ⟨g1, e⟩ := gd_some e
  obtain ⟨q2, g3, e⟩ := ob_some e
  refine V_getR (pc := 1) (ci := 10) (k := 0) (b := q2) dX11_fault_1 fl_X11_10 rfl (of_decide_eq_true g1) g3 ?_
  obtain ⟨g4, e⟩ := gd_some e
  refine V_getI (pc := 4) (ci := 6) (k := 6) dX11_fault_4 fl_X11_141 rfl (of_decide_eq_true g4) ?_
  cases e
  exact V_iret (pc := 7) dX11_fault_7 hF
def F_X11_fault (v0 : Nat) (h : Hp) : Option Int32 := F_X11_fault_b0 v0 h
theorem c_X11_fault {l : Launch} (v0 : Nat) (h : Hp) {r : Int32} (e : F_X11_fault v0 h = some r) : Ct l yX11_fault M_X11_fault (some .int) 0 [.ref v0] h 0 0 (some (.int r)) h :=
  Ct_of rfl rfl (fun q => by cases q) (Nat.le_of_ble_eq_true rfl) (fun x _ hF => V_pick [0] rfl (r_X11_fault_b0 v0 h e hF))
theorem dX11_bestPlace_0 : decode cX11_bestPlace 0 = .ok (.bipush (-9), 2) := by decide +kernel
theorem dX11_bestPlace_2 : decode cX11_bestPlace 2 = .ok (.istore_n 2, 1) := by decide +kernel
theorem dX11_bestPlace_3 : decode cX11_bestPlace 3 = .ok (.bipush (-9), 2) := by decide +kernel
theorem dX11_bestPlace_5 : decode cX11_bestPlace 5 = .ok (.istore_n 3, 1) := by decide +kernel
theorem dX11_bestPlace_6 : decode cX11_bestPlace 6 = .ok (.iload_n 3, 1) := by decide +kernel
theorem dX11_bestPlace_7 : decode cX11_bestPlace 7 = .ok (.bipush 9, 2) := by decide +kernel
theorem dX11_bestPlace_9 : decode cX11_bestPlace 9 = .ok (.if_icmp .gt 30, 3) := by decide +kernel
theorem dX11_bestPlace_12 : decode cX11_bestPlace 12 = .ok (.iload_n 0, 1) := by decide +kernel
theorem dX11_bestPlace_13 : decode cX11_bestPlace 13 = .ok (.iload_n 1, 1) := by decide +kernel
theorem dX11_bestPlace_14 : decode cX11_bestPlace 14 = .ok (.iload_n 3, 1) := by decide +kernel
theorem dX11_bestPlace_15 : decode cX11_bestPlace 15 = .ok (.imul, 1) := by decide +kernel
theorem dX11_bestPlace_16 : decode cX11_bestPlace 16 = .ok (.iadd, 1) := by decide +kernel
theorem dX11_bestPlace_17 : decode cX11_bestPlace 17 = .ok (.invokestatic 308, 3) := by decide +kernel
theorem dX11_bestPlace_20 : decode cX11_bestPlace 20 = .ok (.iload_n 0, 1) := by decide +kernel
theorem dX11_bestPlace_21 : decode cX11_bestPlace 21 = .ok (.iload_n 1, 1) := by decide +kernel
theorem dX11_bestPlace_22 : decode cX11_bestPlace 22 = .ok (.iload_n 2, 1) := by decide +kernel
theorem dX11_bestPlace_23 : decode cX11_bestPlace 23 = .ok (.imul, 1) := by decide +kernel
theorem dX11_bestPlace_24 : decode cX11_bestPlace 24 = .ok (.iadd, 1) := by decide +kernel
theorem dX11_bestPlace_25 : decode cX11_bestPlace 25 = .ok (.invokestatic 308, 3) := by decide +kernel
theorem dX11_bestPlace_28 : decode cX11_bestPlace 28 = .ok (.if_icmp .ge 5, 3) := by decide +kernel
theorem dX11_bestPlace_31 : decode cX11_bestPlace 31 = .ok (.iload_n 3, 1) := by decide +kernel
theorem dX11_bestPlace_32 : decode cX11_bestPlace 32 = .ok (.istore_n 2, 1) := by decide +kernel
theorem dX11_bestPlace_33 : decode cX11_bestPlace 33 = .ok (.iinc 3 1, 3) := by decide +kernel
theorem dX11_bestPlace_36 : decode cX11_bestPlace 36 = .ok (.goto (-30), 3) := by decide +kernel
theorem dX11_bestPlace_39 : decode cX11_bestPlace 39 = .ok (.iload_n 2, 1) := by decide +kernel
theorem dX11_bestPlace_40 : decode cX11_bestPlace 40 = .ok (.ireturn, 1) := by decide +kernel
set_option maxRecDepth 100000 in
def F_X11_bestPlace_b33 (v0 : Int32) (v1 : Int32) (v2 : Int32) (v3 : Int32) (h : Hp) : Option ((Int32 × Int32) ⊕ Int32) :=
  some (.inl (v2, v3 + (1 : Int32)))
set_option maxHeartbeats 4000000 in
set_option maxRecDepth 100000 in
theorem r_X11_bestPlace_b33 (v0 : Int32) (v1 : Int32) (v2 : Int32) (v3 : Int32) (h : Hp) {x : Cx} {o : ((Int32 × Int32) ⊕ Int32)} (e : F_X11_bestPlace_b33 v0 v1 v2 v3 h = some o) (kI : ∀ z, o = .inl z → V M_X11_bestPlace x 1 6 [(0, .int v0), (1, .int v1), (2, .int z.1), (3, .int z.2)] [] h 0 0) (kE39 : ∀ z : Int32, o = .inr z → V M_X11_bestPlace x 1 39 [(2, .int z)] [] h 0 0) : V M_X11_bestPlace x 1 33 [(0, .int v0), (1, .int v1), (2, .int v2), (3, .int v3)] [] h 0 0 := by
  unfold F_X11_bestPlace_b33 at e
  refine V_iinc (pc := 33) (i := 3) (u := v3 + (1 : Int32)) (lv' := [(3, .int (v3 + (1 : Int32))), (0, .int v0), (1, .int v1), (2, .int v2)]) dX11_bestPlace_33 rfl rfl (by decide) rfl ?_
  refine V_goto (pc := 36) (tgt := 6) dX11_bestPlace_36 (by decide) ?_
  cases e
  exact V_pick [1, 2, 3, 0] rfl (kI (v2, v3 + (1 : Int32)) rfl)
set_option maxRecDepth 100000 in
def F_X11_bestPlace_l6 (v0 : Int32) (v1 : Int32) (v2 : Int32) (v3 : Int32) (h : Hp) : Option ((Int32 × Int32) ⊕ Int32) :=
  (if (9 : Int32) < v3 then some (.inr v2) else (if (jabs (v0 + (v1 * v2))) ≤ (jabs (v0 + (v1 * v3))) then F_X11_bestPlace_b33 v0 v1 v2 v3 h else F_X11_bestPlace_b33 v0 v1 v3 v3 h))
set_option maxHeartbeats 4000000 in
set_option maxRecDepth 100000 in
theorem r_X11_bestPlace_l6 (v0 : Int32) (v1 : Int32) (v2 : Int32) (v3 : Int32) (h : Hp) {x : Cx} {o : ((Int32 × Int32) ⊕ Int32)} (e : F_X11_bestPlace_l6 v0 v1 v2 v3 h = some o) (kI : ∀ z, o = .inl z → V M_X11_bestPlace x 1 6 [(0, .int v0), (1, .int v1), (2, .int z.1), (3, .int z.2)] [] h 0 0) (kE39 : ∀ z : Int32, o = .inr z → V M_X11_bestPlace x 1 39 [(2, .int z)] [] h 0 0) : V M_X11_bestPlace x 1 6 [(0, .int v0), (1, .int v1), (2, .int v2), (3, .int v3)] [] h 0 0 := by
  unfold F_X11_bestPlace_l6 at e
  refine V_iload_n (pc := 6) (i := 3) dX11_bestPlace_6 rfl rfl ?_
  refine V_bipush (pc := 7) (v := (9 : Int32)) dX11_bestPlace_7 (by decide) ?_
  refine V_icmp_gt (pc := 9) (tgt := 39) dX11_bestPlace_9 (by decide) (fun c2 => ?_) (fun c2 => ?_)
  · rw [if_pos c2] at e
    cases e
    exact V_pick [2] rfl (kE39 v2 rfl)
  · rw [if_neg c2] at e
    refine V_pick [0, 1, 2, 3] rfl ?_
    refine V_iload_n (pc := 12) (i := 0) dX11_bestPlace_12 rfl rfl ?_
    refine V_iload_n (pc := 13) (i := 1) dX11_bestPlace_13 rfl rfl ?_
    refine V_iload_n (pc := 14) (i := 3) dX11_bestPlace_14 rfl rfl ?_
    refine V_imul (pc := 15) dX11_bestPlace_15 ?_
    refine V_iadd (pc := 16) dX11_bestPlace_16 ?_
    refine V_abs (pc := 17) dX11_bestPlace_17 wm_X11_308 (by decide) (Nat.le_of_ble_eq_true rfl) ?_
    refine V_iload_n (pc := 20) (i := 0) dX11_bestPlace_20 rfl rfl ?_
    refine V_iload_n (pc := 21) (i := 1) dX11_bestPlace_21 rfl rfl ?_
    refine V_iload_n (pc := 22) (i := 2) dX11_bestPlace_22 rfl rfl ?_
    refine V_imul (pc := 23) dX11_bestPlace_23 ?_
    refine V_iadd (pc := 24) dX11_bestPlace_24 ?_
    refine V_abs (pc := 25) dX11_bestPlace_25 wm_X11_308 (by decide) (Nat.le_of_ble_eq_true rfl) ?_
    refine V_icmp_ge (pc := 28) (tgt := 33) dX11_bestPlace_28 (by decide) (fun c1 => ?_) (fun c1 => ?_)
    · rw [if_pos c1] at e
      exact V_pick [0, 1, 2, 3] rfl (r_X11_bestPlace_b33 v0 v1 v2 v3 h e kI kE39)
    · rw [if_neg c1] at e
      refine V_pick [0, 1, 3] rfl ?_
      refine V_iload_n (pc := 31) (i := 3) dX11_bestPlace_31 rfl rfl ?_
      refine V_istore_n (pc := 32) (i := 2) (lv' := [(2, .int v3), (0, .int v0), (1, .int v1), (3, .int v3)]) dX11_bestPlace_32 rfl (by decide) rfl ?_
      exact V_pick [1, 2, 0, 3] rfl (r_X11_bestPlace_b33 v0 v1 v3 v3 h e kI kE39)
set_option maxRecDepth 100000 in
def F_X11_bestPlace_b0 (v0 : Int32) (v1 : Int32) (h : Hp) : Option Int32 :=
  ob (iter (fun z : Int32 × Int32 => F_X11_bestPlace_l6 v0 v1 z.1 z.2 h) FU ((-9 : Int32), (-9 : Int32))) (fun w3 => some w3)
set_option maxHeartbeats 4000000 in
set_option maxRecDepth 100000 in
theorem r_X11_bestPlace_b0 (v0 : Int32) (v1 : Int32) (h : Hp) {x : Cx} {r : Int32} (e : F_X11_bestPlace_b0 v0 v1 h = some r) (hF : Fin9 M_X11_bestPlace x (some .int) (some (.int r)) h) : V M_X11_bestPlace x 1 0 [(0, .int v0), (1, .int v1)] [] h 0 0 := by
  unfold F_X11_bestPlace_b0 at e
  refine V_bipush (pc := 0) (v := (-9 : Int32)) dX11_bestPlace_0 (by decide) ?_
  refine V_istore_n (pc := 2) (i := 2) (lv' := [(2, .int (-9 : Int32)), (0, .int v0), (1, .int v1)]) dX11_bestPlace_2 rfl (by decide) rfl ?_
  refine V_bipush (pc := 3) (v := (-9 : Int32)) dX11_bestPlace_3 (by decide) ?_
  refine V_istore_n (pc := 5) (i := 3) (lv' := [(3, .int (-9 : Int32)), (2, .int (-9 : Int32)), (0, .int v0), (1, .int v1)]) dX11_bestPlace_5 rfl (by decide) rfl ?_
  refine V_pick [2, 3, 1, 0] rfl ?_
  obtain ⟨y4, g5, e⟩ := ob_some e
  refine iter_V (P := fun z : Int32 × Int32 => V M_X11_bestPlace x 1 6 [(0, .int v0), (1, .int v1), (2, .int z.1), (3, .int z.2)] [] h 0 0) (E := fun z : Int32 => V M_X11_bestPlace x 1 39 [(2, .int z)] [] h 0 0) (fun z o e9 k1 k2 => r_X11_bestPlace_l6 v0 v1 z.1 z.2 h e9 (fun z hz9 => k1 z hz9) (fun z hz9 => k2 _ hz9)) _ _ _ g5 ?_
  clear g5
  obtain ⟨w3, rfl⟩ : ∃ q, q = y4 := ⟨_, rfl⟩
  replace e : (some w3) = some r := e
  show V M_X11_bestPlace x 1 39 [(2, .int w3)] [] h 0 0
  refine V_iload_n (pc := 39) (i := 2) dX11_bestPlace_39 rfl rfl ?_
  cases e
  exact V_iret (pc := 40) dX11_bestPlace_40 hF
def F_X11_bestPlace (v0 : Int32) (v1 : Int32) (h : Hp) : Option Int32 := F_X11_bestPlace_b0 v0 v1 h
theorem c_X11_bestPlace {l : Launch} (v0 : Int32) (v1 : Int32) (h : Hp) {r : Int32} (e : F_X11_bestPlace v0 v1 h = some r) : Ct l yX11_bestPlace M_X11_bestPlace (some .int) 1 [.int v0, .int v1] h 0 0 (some (.int r)) h :=
  Ct_of rfl rfl (fun q => by cases q) (Nat.le_of_ble_eq_true rfl) (fun x _ hF => V_pick [0, 1] rfl (r_X11_bestPlace_b0 v0 v1 h e hF))
theorem dX11_read_0 : decode cX11_read 0 = .ok (.aload_n 0, 1) := by decide +kernel
theorem dX11_read_1 : decode cX11_read 1 = .ok (.getfield 19, 3) := by decide +kernel
theorem dX11_read_4 : decode cX11_read 4 = .ok (.getfield 321, 3) := by decide +kernel
theorem dX11_read_7 : decode cX11_read 7 = .ok (.bipush 8, 2) := by decide +kernel
theorem dX11_read_9 : decode cX11_read 9 = .ok (.if_icmp .lt 14, 3) := by decide +kernel
theorem dX11_read_12 : decode cX11_read 12 = .ok (.new 101, 3) := by decide +kernel
theorem dX11_read_15 : decode cX11_read 15 = .ok (.dup, 1) := by decide +kernel
theorem dX11_read_16 : decode cX11_read 16 = .ok (.ldc_w 324, 3) := by decide +kernel
theorem dX11_read_19 : decode cX11_read 19 = .ok (.invokespecial 105, 3) := by decide +kernel
theorem dX11_read_22 : decode cX11_read 22 = .ok (.athrow, 1) := by decide +kernel
theorem dX11_read_23 : decode cX11_read 23 = .ok (.aload_n 0, 1) := by decide +kernel
theorem dX11_read_24 : decode cX11_read 24 = .ok (.getfield 19, 3) := by decide +kernel
theorem dX11_read_27 : decode cX11_read 27 = .ok (.getfield 326, 3) := by decide +kernel
theorem dX11_read_30 : decode cX11_read 30 = .ok (.aload_n 0, 1) := by decide +kernel
theorem dX11_read_31 : decode cX11_read 31 = .ok (.getfield 19, 3) := by decide +kernel
theorem dX11_read_34 : decode cX11_read 34 = .ok (.getfield 321, 3) := by decide +kernel
theorem dX11_read_37 : decode cX11_read 37 = .ok (.iload_n 1, 1) := by decide +kernel
theorem dX11_read_38 : decode cX11_read 38 = .ok (.iastore, 1) := by decide +kernel
theorem dX11_read_39 : decode cX11_read 39 = .ok (.aload_n 0, 1) := by decide +kernel
theorem dX11_read_40 : decode cX11_read 40 = .ok (.getfield 19, 3) := by decide +kernel
theorem dX11_read_43 : decode cX11_read 43 = .ok (.getfield 329, 3) := by decide +kernel
theorem dX11_read_46 : decode cX11_read 46 = .ok (.aload_n 0, 1) := by decide +kernel
theorem dX11_read_47 : decode cX11_read 47 = .ok (.getfield 19, 3) := by decide +kernel
theorem dX11_read_50 : decode cX11_read 50 = .ok (.getfield 321, 3) := by decide +kernel
theorem dX11_read_53 : decode cX11_read 53 = .ok (.iload_n 2, 1) := by decide +kernel
theorem dX11_read_54 : decode cX11_read 54 = .ok (.iastore, 1) := by decide +kernel
theorem dX11_read_55 : decode cX11_read 55 = .ok (.aload_n 0, 1) := by decide +kernel
theorem dX11_read_56 : decode cX11_read 56 = .ok (.getfield 19, 3) := by decide +kernel
theorem dX11_read_59 : decode cX11_read 59 = .ok (.dup, 1) := by decide +kernel
theorem dX11_read_60 : decode cX11_read 60 = .ok (.getfield 321, 3) := by decide +kernel
theorem dX11_read_63 : decode cX11_read 63 = .ok (.iconst 1, 1) := by decide +kernel
theorem dX11_read_64 : decode cX11_read 64 = .ok (.iadd, 1) := by decide +kernel
theorem dX11_read_65 : decode cX11_read 65 = .ok (.putfield 321, 3) := by decide +kernel
theorem dX11_read_68 : decode cX11_read 68 = .ok (.aload_n 0, 1) := by decide +kernel
theorem dX11_read_69 : decode cX11_read 69 = .ok (.getfield 19, 3) := by decide +kernel
theorem dX11_read_72 : decode cX11_read 72 = .ok (.getfield 321, 3) := by decide +kernel
theorem dX11_read_75 : decode cX11_read 75 = .ok (.ireturn, 1) := by decide +kernel
set_option maxRecDepth 100000 in
def F_X11_read_b0 (v0 : Nat) (v1 : Int32) (v2 : Int32) (h : Hp) : Option ((Int32 ⊕ Nat) × Hp × Nat × Nat) :=
  gd (decide (kd h v0 = 10)) <| ob (zR h v0 1) fun q2 => gd (decide (kd h q2 = 2)) <| (if (zI h q2 17) < (8 : Int32) then ob (zR h v0 1) fun q5 => gd (decide (kd h q5 = 2)) <| ob (zR h q5 18) fun q8 => ob (zR h v0 1) fun q10 => gd (decide (kd h q10 = 2)) <| gd (decide (kd h q8 = 13)) <| gd (ix (zI h q10 17) (zl h q8)) <| ob (zR (setI h q8 (zI h q10 17).toNatClampNeg v1) v0 1) fun q15 => gd (decide (kd (setI h q8 (zI h q10 17).toNatClampNeg v1) q15 = 2)) <| ob (zR (setI h q8 (zI h q10 17).toNatClampNeg v1) q15 19) fun q18 => ob (zR (setI h q8 (zI h q10 17).toNatClampNeg v1) v0 1) fun q20 => gd (decide (kd (setI h q8 (zI h q10 17).toNatClampNeg v1) q20 = 2)) <| gd (decide (kd (setI h q8 (zI h q10 17).toNatClampNeg v1) q18 = 13)) <| gd (ix (zI (setI h q8 (zI h q10 17).toNatClampNeg v1) q20 17) (zl (setI h q8 (zI h q10 17).toNatClampNeg v1) q18)) <| ob (some (setI (setI h q8 (zI h q10 17).toNatClampNeg v1) q18 (zI (setI h q8 (zI h q10 17).toNatClampNeg v1) q20 17).toNatClampNeg v2)) fun h25 => ob (zR h25 v0 1) fun q35 => gd (decide (kd h25 q35 = 2)) <| ob (zR (setI h25 q35 17 ((zI h25 q35 17) + (1 : Int32))) v0 1) fun q38 => gd (decide (kd (setI h25 q35 17 ((zI h25 q35 17) + (1 : Int32))) q38 = 2)) <| some (.inl (zI (setI h25 q35 17 ((zI h25 q35 17) + (1 : Int32))) q38 17), setI h25 q35 17 ((zI h25 q35 17) + (1 : Int32)), 0, 0) else some (.inr 1, h, 1, 6))
set_option maxHeartbeats 4000000 in
set_option maxRecDepth 100000 in
theorem r_X11_read_b0 (v0 : Nat) (v1 : Int32) (v2 : Int32) (h : Hp) {x : Cx} {r : (Int32 ⊕ Nat)} {hz : Hp} {c9 s9 : Nat} (e : F_X11_read_b0 v0 v1 v2 h = some (r, hz, c9, s9)) (hF : FinO M_X11_read x (some .int) r hz) : V M_X11_read x 8 0 [(0, .ref v0), (1, .int v1), (2, .int v2)] [] h c9 s9 := by
  unfold F_X11_read_b0 at e
  refine V_aload_n (pc := 0) (i := 0) dX11_read_0 rfl rfl ?_
  replace e := gd_some e
  obtain ⟨g1, e⟩ := e
  replace e := ob_some e
  obtain ⟨q2, g3, e⟩ := e
  refine V_getR (pc := 1) (ci := 10) (k := 1) (b := q2) dX11_read_1 fl_X11_19 rfl (of_decide_eq_true g1) g3 ?_
  replace e := gd_some e
  obtain ⟨g4, e⟩ := e
  refine V_getI (pc := 4) (ci := 2) (k := 17) dX11_read_4 fl_X11_321 rfl (of_decide_eq_true g4) ?_
  refine V_bipush (pc := 7) (v := (8 : Int32)) dX11_read_7 (by decide) ?_
  refine V_icmp_lt (pc := 9) (tgt := 23) dX11_read_9 (by decide) (fun c41 => ?_) (fun c41 => ?_)
  · rw [if_pos c41] at e
    refine V_pick [0, 1, 2] rfl ?_
    refine V_aload_n (pc := 23) (i := 0) dX11_read_23 rfl rfl ?_
    replace e := ob_some e
    obtain ⟨q5, g6, e⟩ := e
    refine V_getR (pc := 24) (ci := 10) (k := 1) (b := q5) dX11_read_24 fl_X11_19 rfl (of_decide_eq_true g1) g6 ?_
    replace e := gd_some e
    obtain ⟨g7, e⟩ := e
    replace e := ob_some e
    obtain ⟨q8, g9, e⟩ := e
    refine V_getR (pc := 27) (ci := 2) (k := 18) (b := q8) dX11_read_27 fl_X11_326 rfl (of_decide_eq_true g7) g9 ?_
    refine V_aload_n (pc := 30) (i := 0) dX11_read_30 rfl rfl ?_
    replace e := ob_some e
    obtain ⟨q10, g11, e⟩ := e
    refine V_getR (pc := 31) (ci := 10) (k := 1) (b := q10) dX11_read_31 fl_X11_19 rfl (of_decide_eq_true g1) g11 ?_
    replace e := gd_some e
    obtain ⟨g12, e⟩ := e
    refine V_getI (pc := 34) (ci := 2) (k := 17) dX11_read_34 fl_X11_321 rfl (of_decide_eq_true g12) ?_
    refine V_iload_n (pc := 37) (i := 1) dX11_read_37 rfl rfl ?_
    replace e := gd_some e
    obtain ⟨g13, e⟩ := e
    replace e := gd_some e
    obtain ⟨g14, e⟩ := e
    refine V_iast (pc := 38) dX11_read_38 (of_decide_eq_true g13) (ix_in g14) ?_
    refine V_aload_n (pc := 39) (i := 0) dX11_read_39 rfl rfl ?_
    replace e := ob_some e
    obtain ⟨q15, g16, e⟩ := e
    refine V_getR (pc := 40) (ci := 10) (k := 1) (b := q15) dX11_read_40 fl_X11_19 rfl (kd_sI (of_decide_eq_true g1)) g16 ?_
    replace e := gd_some e
    obtain ⟨g17, e⟩ := e
    replace e := ob_some e
    obtain ⟨q18, g19, e⟩ := e
    refine V_getR (pc := 43) (ci := 2) (k := 19) (b := q18) dX11_read_43 fl_X11_329 rfl (of_decide_eq_true g17) g19 ?_
    refine V_aload_n (pc := 46) (i := 0) dX11_read_46 rfl rfl ?_
    replace e := ob_some e
    obtain ⟨q20, g21, e⟩ := e
    refine V_getR (pc := 47) (ci := 10) (k := 1) (b := q20) dX11_read_47 fl_X11_19 rfl (kd_sI (of_decide_eq_true g1)) g21 ?_
    replace e := gd_some e
    obtain ⟨g22, e⟩ := e
    refine V_getI (pc := 50) (ci := 2) (k := 17) dX11_read_50 fl_X11_321 rfl (of_decide_eq_true g22) ?_
    refine V_iload_n (pc := 53) (i := 2) dX11_read_53 rfl rfl ?_
    replace e := gd_some e
    obtain ⟨g23, e⟩ := e
    replace e := gd_some e
    obtain ⟨g24, e⟩ := e
    refine V_iast (pc := 54) dX11_read_54 (of_decide_eq_true g23) (ix_in g24) ?_
    replace e := ob_some e
    obtain ⟨h25, g26, e⟩ := e
    refine V_hp (Option.some.inj g26) ?_
    have k27 : kd h25 v0 = 10 := kd_eq (h := (setI (setI h q8 (zI h q10 17).toNatClampNeg v1) q18 (zI (setI h q8 (zI h q10 17).toNatClampNeg v1) q20 17).toNatClampNeg v2)) (Option.some.inj g26) (kd_sI (kd_sI (of_decide_eq_true g1)))
    have k28 : kd h25 q2 = 2 := kd_eq (h := (setI (setI h q8 (zI h q10 17).toNatClampNeg v1) q18 (zI (setI h q8 (zI h q10 17).toNatClampNeg v1) q20 17).toNatClampNeg v2)) (Option.some.inj g26) (kd_sI (kd_sI (of_decide_eq_true g4)))
    have k29 : kd h25 q5 = 2 := kd_eq (h := (setI (setI h q8 (zI h q10 17).toNatClampNeg v1) q18 (zI (setI h q8 (zI h q10 17).toNatClampNeg v1) q20 17).toNatClampNeg v2)) (Option.some.inj g26) (kd_sI (kd_sI (of_decide_eq_true g7)))
    have k30 : kd h25 q10 = 2 := kd_eq (h := (setI (setI h q8 (zI h q10 17).toNatClampNeg v1) q18 (zI (setI h q8 (zI h q10 17).toNatClampNeg v1) q20 17).toNatClampNeg v2)) (Option.some.inj g26) (kd_sI (kd_sI (of_decide_eq_true g12)))
    have k31 : kd h25 q8 = 13 := kd_eq (h := (setI (setI h q8 (zI h q10 17).toNatClampNeg v1) q18 (zI (setI h q8 (zI h q10 17).toNatClampNeg v1) q20 17).toNatClampNeg v2)) (Option.some.inj g26) (kd_sI (kd_sI (of_decide_eq_true g13)))
    have k32 : kd h25 q15 = 2 := kd_eq (h := (setI (setI h q8 (zI h q10 17).toNatClampNeg v1) q18 (zI (setI h q8 (zI h q10 17).toNatClampNeg v1) q20 17).toNatClampNeg v2)) (Option.some.inj g26) (kd_sI (of_decide_eq_true g17))
    have k33 : kd h25 q20 = 2 := kd_eq (h := (setI (setI h q8 (zI h q10 17).toNatClampNeg v1) q18 (zI (setI h q8 (zI h q10 17).toNatClampNeg v1) q20 17).toNatClampNeg v2)) (Option.some.inj g26) (kd_sI (of_decide_eq_true g22))
    have k34 : kd h25 q18 = 13 := kd_eq (h := (setI (setI h q8 (zI h q10 17).toNatClampNeg v1) q18 (zI (setI h q8 (zI h q10 17).toNatClampNeg v1) q20 17).toNatClampNeg v2)) (Option.some.inj g26) (kd_sI (of_decide_eq_true g23))
    refine V_aload_n (pc := 55) (i := 0) dX11_read_55 rfl rfl ?_
    replace e := ob_some e
    obtain ⟨q35, g36, e⟩ := e
    refine V_getR (pc := 56) (ci := 10) (k := 1) (b := q35) dX11_read_56 fl_X11_19 rfl k27 g36 ?_
    refine V_dup (pc := 59) dX11_read_59 rfl ?_
    replace e := gd_some e
    obtain ⟨g37, e⟩ := e
    refine V_getI (pc := 60) (ci := 2) (k := 17) dX11_read_60 fl_X11_321 rfl (of_decide_eq_true g37) ?_
    refine V_iconst (pc := 63) (v := (1 : Int32)) dX11_read_63 (by decide) ?_
    refine V_iadd (pc := 64) dX11_read_64 ?_
    refine V_putI (pc := 65) (ci := 2) (k := 17) dX11_read_65 fp_X11_321 rfl (of_decide_eq_true g37) ?_
    refine V_aload_n (pc := 68) (i := 0) dX11_read_68 rfl rfl ?_
    replace e := ob_some e
    obtain ⟨q38, g39, e⟩ := e
    refine V_getR (pc := 69) (ci := 10) (k := 1) (b := q38) dX11_read_69 fl_X11_19 rfl (kd_sI k27) g39 ?_
    replace e := gd_some e
    obtain ⟨g40, e⟩ := e
    refine V_getI (pc := 72) (ci := 2) (k := 17) dX11_read_72 fl_X11_321 rfl (of_decide_eq_true g40) ?_
    cases e
    exact V_iret (pc := 75) dX11_read_75 hF
  · rw [if_neg c41] at e
    refine V_pick [] rfl ?_
    cases e
    exact V_throwW (pc := 12) (j := 35) hF th_X11_101_105 rfl (by decide) (Nat.le_of_ble_eq_true rfl) dX11_read_12 dX11_read_15 dX11_read_16 dX11_read_19 dX11_read_22
def F_X11_read (v0 : Nat) (v1 : Int32) (v2 : Int32) (h : Hp) : Option ((Int32 ⊕ Nat) × Hp × Nat × Nat) := F_X11_read_b0 v0 v1 v2 h
theorem c_X11_read {l : Launch} (v0 : Nat) (v1 : Int32) (v2 : Int32) (h : Hp) {r : Int32} {hz : Hp} {c9 s9 : Nat} (e : F_X11_read v0 v1 v2 h = some (.inl r, hz, c9, s9)) : Ct l yX11_read M_X11_read (some .int) 8 [.ref v0, .int v1, .int v2] h c9 s9 (some (.int r)) hz :=
  Ct_of rfl rfl (fun q => by cases q) (Nat.le_of_ble_eq_true rfl) (fun x _ hF => V_pick [0, 1, 2] rfl (r_X11_read_b0 v0 v1 v2 h e hF))
theorem cX_X11_read {l : Launch} (hst : l.stackTraces = false) (v0 : Nat) (v1 : Int32) (v2 : Int32) (h : Hp) {k : Nat} {hz : Hp} {c9 s9 : Nat} (e : F_X11_read v0 v1 v2 h = some (.inr k, hz, c9, s9)) : CtX l yX11_read M_X11_read (some .int) 8 [.ref v0, .int v1, .int v2] h c9 s9 (exN k) hz :=
  CtX_of hst rfl rfl (fun q => by cases q) (Nat.le_of_ble_eq_true rfl) (fun x _ hF => V_pick [0, 1, 2] rfl (r_X11_read_b0 v0 v1 v2 h e hF))
theorem dX11_seed_0 : decode cX11_seed 0 = .ok (.aload_n 0, 1) := by decide +kernel
theorem dX11_seed_1 : decode cX11_seed 1 = .ok (.getfield 19, 3) := by decide +kernel
theorem dX11_seed_4 : decode cX11_seed 4 = .ok (.getfield 359, 3) := by decide +kernel
theorem dX11_seed_7 : decode cX11_seed 7 = .ok (.istore_n 2, 1) := by decide +kernel
theorem dX11_seed_8 : decode cX11_seed 8 = .ok (.aload_n 0, 1) := by decide +kernel
theorem dX11_seed_9 : decode cX11_seed 9 = .ok (.getfield 19, 3) := by decide +kernel
theorem dX11_seed_12 : decode cX11_seed 12 = .ok (.iload_n 1, 1) := by decide +kernel
theorem dX11_seed_13 : decode cX11_seed 13 = .ok (.putfield 359, 3) := by decide +kernel
theorem dX11_seed_16 : decode cX11_seed 16 = .ok (.iload_n 2, 1) := by decide +kernel
theorem dX11_seed_17 : decode cX11_seed 17 = .ok (.ireturn, 1) := by decide +kernel
set_option maxRecDepth 100000 in
def F_X11_seed_b0 (v0 : Nat) (v1 : Int32) (h : Hp) : Option (Int32 × Hp) :=
  gd (decide (kd h v0 = 10)) <| ob (zR h v0 1) fun q2 => gd (decide (kd h q2 = 2)) <| ob (zR h v0 1) fun q5 => gd (decide (kd h q5 = 2)) <| some (zI h q2 15, setI h q5 15 v1)
set_option maxHeartbeats 4000000 in
set_option maxRecDepth 100000 in
theorem r_X11_seed_b0 (v0 : Nat) (v1 : Int32) (h : Hp) {x : Cx} {r : Int32} {hz : Hp} (e : F_X11_seed_b0 v0 v1 h = some (r, hz)) (hF : Fin9 M_X11_seed x (some .int) (some (.int r)) hz) : V M_X11_seed x 0 0 [(0, .ref v0), (1, .int v1)] [] h 0 0 := by
  unfold F_X11_seed_b0 at e
  refine V_aload_n (pc := 0) (i := 0) dX11_seed_0 rfl rfl ?_
  obtain ⟨g1, e⟩ := gd_some e
  obtain ⟨q2, g3, e⟩ := ob_some e
  refine V_getR (pc := 1) (ci := 10) (k := 1) (b := q2) dX11_seed_1 fl_X11_19 rfl (of_decide_eq_true g1) g3 ?_
  obtain ⟨g4, e⟩ := gd_some e
  refine V_getI (pc := 4) (ci := 2) (k := 15) dX11_seed_4 fl_X11_359 rfl (of_decide_eq_true g4) ?_
  refine V_istore_n (pc := 7) (i := 2) (lv' := [(2, .int (zI h q2 15)), (0, .ref v0), (1, .int v1)]) dX11_seed_7 rfl (by decide) rfl ?_
  refine V_aload_n (pc := 8) (i := 0) dX11_seed_8 rfl rfl ?_
  obtain ⟨q5, g6, e⟩ := ob_some e
  refine V_getR (pc := 9) (ci := 10) (k := 1) (b := q5) dX11_seed_9 fl_X11_19 rfl (of_decide_eq_true g1) g6 ?_
  refine V_iload_n (pc := 12) (i := 1) dX11_seed_12 rfl rfl ?_
  obtain ⟨g7, e⟩ := gd_some e
  refine V_putI (pc := 13) (ci := 2) (k := 15) dX11_seed_13 fp_X11_359 rfl (of_decide_eq_true g7) ?_
  refine V_iload_n (pc := 16) (i := 2) dX11_seed_16 rfl rfl ?_
  cases e
  exact V_iret (pc := 17) dX11_seed_17 hF
def F_X11_seed (v0 : Nat) (v1 : Int32) (h : Hp) : Option (Int32 × Hp) := F_X11_seed_b0 v0 v1 h
theorem c_X11_seed {l : Launch} (v0 : Nat) (v1 : Int32) (h : Hp) {r : Int32} {hz : Hp} (e : F_X11_seed v0 v1 h = some (r, hz)) : Ct l yX11_seed M_X11_seed (some .int) 0 [.ref v0, .int v1] h 0 0 (some (.int r)) hz :=
  Ct_of rfl rfl (fun q => by cases q) (Nat.le_of_ble_eq_true rfl) (fun x _ hF => V_pick [0, 1] rfl (r_X11_seed_b0 v0 v1 h e hF))
theorem dX12_thrown_0 : decode cX12_thrown 0 = .ok (.aload_n 0, 1) := by decide +kernel
theorem dX12_thrown_1 : decode cX12_thrown 1 = .ok (.getfield 3, 3) := by decide +kernel
theorem dX12_thrown_4 : decode cX12_thrown 4 = .ok (.ireturn, 1) := by decide +kernel
set_option maxRecDepth 100000 in
def F_X12_thrown_b0 (v0 : Nat) (h : Hp) : Option Int32 :=
  gd (decide (kd h v0 = 11)) <| some (zI h v0 0)
set_option maxHeartbeats 4000000 in
set_option maxRecDepth 100000 in
theorem r_X12_thrown_b0 (v0 : Nat) (h : Hp) {x : Cx} {r : Int32} (e : F_X12_thrown_b0 v0 h = some r) (hF : Fin9 M_X12_thrown x (some .int) (some (.int r)) h) : V M_X12_thrown x 0 0 [(0, .ref v0)] [] h 0 0 := by
  unfold F_X12_thrown_b0 at e
  refine V_aload_n (pc := 0) (i := 0) dX12_thrown_0 rfl rfl ?_
  obtain ⟨g1, e⟩ := gd_some e
  refine V_getI (pc := 1) (ci := 11) (k := 0) dX12_thrown_1 fl_X12_3 rfl (of_decide_eq_true g1) ?_
  cases e
  exact V_iret (pc := 4) dX12_thrown_4 hF
def F_X12_thrown (v0 : Nat) (h : Hp) : Option Int32 := F_X12_thrown_b0 v0 h
theorem c_X12_thrown {l : Launch} (v0 : Nat) (h : Hp) {r : Int32} (e : F_X12_thrown v0 h = some r) : Ct l yX12_thrown M_X12_thrown (some .int) 0 [.ref v0] h 0 0 (some (.int r)) h :=
  Ct_of rfl rfl (fun q => by cases q) (Nat.le_of_ble_eq_true rfl) (fun x _ hF => V_pick [0] rfl (r_X12_thrown_b0 v0 h e hF))
theorem dX12_throwsIf_0 : decode cX12_throwsIf 0 = .ok (.iload_n 1, 1) := by decide +kernel
theorem dX12_throwsIf_1 : decode cX12_throwsIf 1 = .ok (.ifCond .eq 8, 3) := by decide +kernel
theorem dX12_throwsIf_4 : decode cX12_throwsIf 4 = .ok (.aload_n 0, 1) := by decide +kernel
theorem dX12_throwsIf_5 : decode cX12_throwsIf 5 = .ok (.iload_n 2, 1) := by decide +kernel
theorem dX12_throwsIf_6 : decode cX12_throwsIf 6 = .ok (.putfield 3, 3) := by decide +kernel
theorem dX12_throwsIf_9 : decode cX12_throwsIf 9 = .ok (.iload_n 1, 1) := by decide +kernel
theorem dX12_throwsIf_10 : decode cX12_throwsIf 10 = .ok (.ireturn, 1) := by decide +kernel
set_option maxRecDepth 100000 in
def F_X12_throwsIf_b9 (v1 : Int32) (h : Hp) : Option (Int32 × Hp) :=
  gd (decide (v1 = 0 ∨ v1 = 1)) <| some (v1, h)
set_option maxHeartbeats 4000000 in
set_option maxRecDepth 100000 in
theorem r_X12_throwsIf_b9 (v1 : Int32) (h : Hp) {x : Cx} {r : Int32} {hz : Hp} (e : F_X12_throwsIf_b9 v1 h = some (r, hz)) (hF : Fin9 M_X12_throwsIf x (some .boolean) (some (.int r)) hz) : V M_X12_throwsIf x 0 9 [(1, .int v1)] [] h 0 0 := by
  unfold F_X12_throwsIf_b9 at e
  refine V_iload_n (pc := 9) (i := 1) dX12_throwsIf_9 rfl rfl ?_
  obtain ⟨g1, e⟩ := gd_some e
  cases e
  exact V_zret (pc := 10) dX12_throwsIf_10 (z01 (of_decide_eq_true g1)) hF
set_option maxRecDepth 100000 in
def F_X12_throwsIf_b0 (v0 : Nat) (v1 : Int32) (v2 : Int32) (h : Hp) : Option (Int32 × Hp) :=
  (if v1 = 0 then F_X12_throwsIf_b9 v1 h else gd (decide (kd h v0 = 11)) <| F_X12_throwsIf_b9 v1 (setI h v0 0 v2))
set_option maxHeartbeats 4000000 in
set_option maxRecDepth 100000 in
theorem r_X12_throwsIf_b0 (v0 : Nat) (v1 : Int32) (v2 : Int32) (h : Hp) {x : Cx} {r : Int32} {hz : Hp} (e : F_X12_throwsIf_b0 v0 v1 v2 h = some (r, hz)) (hF : Fin9 M_X12_throwsIf x (some .boolean) (some (.int r)) hz) : V M_X12_throwsIf x 0 0 [(0, .ref v0), (1, .int v1), (2, .int v2)] [] h 0 0 := by
  unfold F_X12_throwsIf_b0 at e
  refine V_iload_n (pc := 0) (i := 1) dX12_throwsIf_0 rfl rfl ?_
  refine V_if_eq (pc := 1) (tgt := 9) dX12_throwsIf_1 (by decide) (fun c3 => ?_) (fun c3 => ?_)
  · rw [if_pos c3] at e
    exact V_pick [1] rfl (r_X12_throwsIf_b9 v1 h e hF)
  · rw [if_neg c3] at e
    refine V_pick [0, 1, 2] rfl ?_
    refine V_aload_n (pc := 4) (i := 0) dX12_throwsIf_4 rfl rfl ?_
    refine V_iload_n (pc := 5) (i := 2) dX12_throwsIf_5 rfl rfl ?_
    obtain ⟨g2, e⟩ := gd_some e
    refine V_putI (pc := 6) (ci := 11) (k := 0) dX12_throwsIf_6 fp_X12_3 rfl (of_decide_eq_true g2) ?_
    exact V_pick [1] rfl (r_X12_throwsIf_b9 v1 (setI h v0 0 v2) e hF)
def F_X12_throwsIf (v0 : Nat) (v1 : Int32) (v2 : Int32) (h : Hp) : Option (Int32 × Hp) := F_X12_throwsIf_b0 v0 v1 v2 h
theorem c_X12_throwsIf {l : Launch} (v0 : Nat) (v1 : Int32) (v2 : Int32) (h : Hp) {r : Int32} {hz : Hp} (e : F_X12_throwsIf v0 v1 v2 h = some (r, hz)) : Ct l yX12_throwsIf M_X12_throwsIf (some .boolean) 0 [.ref v0, .int v1, .int v2] h 0 0 (some (.int r)) hz :=
  Ct_of rfl rfl (fun q => by cases q) (Nat.le_of_ble_eq_true rfl) (fun x _ hF => V_pick [0, 1, 2] rfl (r_X12_throwsIf_b0 v0 v1 v2 h e hF))
theorem dX12_in_0 : decode cX12_in 0 = .ok (.iload_n 0, 1) := by decide +kernel
theorem dX12_in_1 : decode cX12_in 1 = .ok (.iload_n 1, 1) := by decide +kernel
theorem dX12_in_2 : decode cX12_in 2 = .ok (.if_icmp .lt 12, 3) := by decide +kernel
theorem dX12_in_5 : decode cX12_in 5 = .ok (.iload_n 0, 1) := by decide +kernel
theorem dX12_in_6 : decode cX12_in 6 = .ok (.iload_n 2, 1) := by decide +kernel
theorem dX12_in_7 : decode cX12_in 7 = .ok (.if_icmp .gt 7, 3) := by decide +kernel
theorem dX12_in_10 : decode cX12_in 10 = .ok (.iconst 1, 1) := by decide +kernel
theorem dX12_in_11 : decode cX12_in 11 = .ok (.goto 4, 3) := by decide +kernel
theorem dX12_in_14 : decode cX12_in 14 = .ok (.iconst 0, 1) := by decide +kernel
theorem dX12_in_15 : decode cX12_in 15 = .ok (.ireturn, 1) := by decide +kernel
set_option maxRecDepth 100000 in
def F_X12_in_b15 (t0 : Int32) (h : Hp) : Option Int32 :=
  gd (decide (t0 = 0 ∨ t0 = 1)) <| some t0
set_option maxHeartbeats 4000000 in
set_option maxRecDepth 100000 in
theorem r_X12_in_b15 (t0 : Int32) (h : Hp) {x : Cx} {r : Int32} (e : F_X12_in_b15 t0 h = some r) (hF : Fin9 M_X12_in x (some .boolean) (some (.int r)) h) : V M_X12_in x 0 15 [] [.int t0] h 0 0 := by
  unfold F_X12_in_b15 at e
  obtain ⟨g1, e⟩ := gd_some e
  cases e
  exact V_zret (pc := 15) dX12_in_15 (z01 (of_decide_eq_true g1)) hF
set_option maxRecDepth 100000 in
def F_X12_in_b14  (h : Hp) : Option Int32 :=
  F_X12_in_b15 (0 : Int32) h
set_option maxHeartbeats 4000000 in
set_option maxRecDepth 100000 in
theorem r_X12_in_b14  (h : Hp) {x : Cx} {r : Int32} (e : F_X12_in_b14  h = some r) (hF : Fin9 M_X12_in x (some .boolean) (some (.int r)) h) : V M_X12_in x 0 14 [] [] h 0 0 := by
  unfold F_X12_in_b14 at e
  refine V_iconst (pc := 14) (v := (0 : Int32)) dX12_in_14 (by decide) ?_
  exact V_pick [] rfl (r_X12_in_b15 (0 : Int32) h e hF)
set_option maxRecDepth 100000 in
def F_X12_in_b0 (v0 : Int32) (v1 : Int32) (v2 : Int32) (h : Hp) : Option Int32 :=
  (if v0 < v1 then F_X12_in_b14 h else (if v2 < v0 then F_X12_in_b14 h else F_X12_in_b15 (1 : Int32) h))
set_option maxHeartbeats 4000000 in
set_option maxRecDepth 100000 in
theorem r_X12_in_b0 (v0 : Int32) (v1 : Int32) (v2 : Int32) (h : Hp) {x : Cx} {r : Int32} (e : F_X12_in_b0 v0 v1 v2 h = some r) (hF : Fin9 M_X12_in x (some .boolean) (some (.int r)) h) : V M_X12_in x 0 0 [(0, .int v0), (1, .int v1), (2, .int v2)] [] h 0 0 := by
  unfold F_X12_in_b0 at e
  refine V_iload_n (pc := 0) (i := 0) dX12_in_0 rfl rfl ?_
  refine V_iload_n (pc := 1) (i := 1) dX12_in_1 rfl rfl ?_
  refine V_icmp_lt (pc := 2) (tgt := 14) dX12_in_2 (by decide) (fun c3 => ?_) (fun c3 => ?_)
  · rw [if_pos c3] at e
    exact V_pick [] rfl (r_X12_in_b14 h e hF)
  · rw [if_neg c3] at e
    refine V_pick [0, 2] rfl ?_
    refine V_iload_n (pc := 5) (i := 0) dX12_in_5 rfl rfl ?_
    refine V_iload_n (pc := 6) (i := 2) dX12_in_6 rfl rfl ?_
    refine V_icmp_gt (pc := 7) (tgt := 14) dX12_in_7 (by decide) (fun c2 => ?_) (fun c2 => ?_)
    · rw [if_pos c2] at e
      exact V_pick [] rfl (r_X12_in_b14 h e hF)
    · rw [if_neg c2] at e
      refine V_pick [] rfl ?_
      refine V_iconst (pc := 10) (v := (1 : Int32)) dX12_in_10 (by decide) ?_
      refine V_goto (pc := 11) (tgt := 15) dX12_in_11 (by decide) ?_
      exact V_pick [] rfl (r_X12_in_b15 (1 : Int32) h e hF)
def F_X12_in (v0 : Int32) (v1 : Int32) (v2 : Int32) (h : Hp) : Option Int32 := F_X12_in_b0 v0 v1 v2 h
theorem c_X12_in {l : Launch} (v0 : Int32) (v1 : Int32) (v2 : Int32) (h : Hp) {r : Int32} (e : F_X12_in v0 v1 v2 h = some r) : Ct l yX12_in M_X12_in (some .boolean) 0 [.int v0, .int v1, .int v2] h 0 0 (some (.int r)) h :=
  Ct_of rfl rfl (fun q => by cases q) (Nat.le_of_ble_eq_true rfl) (fun x _ hF => V_pick [0, 1, 2] rfl (r_X12_in_b0 v0 v1 v2 h e hF))
theorem dX12_init_0 : decode cX12_init 0 = .ok (.aload_n 0, 1) := by decide +kernel
theorem dX12_init_1 : decode cX12_init 1 = .ok (.invokespecial 7, 3) := by decide +kernel
theorem dX12_init_4 : decode cX12_init 4 = .ok (.aload_n 0, 1) := by decide +kernel
theorem dX12_init_5 : decode cX12_init 5 = .ok (.sipush 5049, 3) := by decide +kernel
theorem dX12_init_8 : decode cX12_init 8 = .ok (.newarray .int, 2) := by decide +kernel
theorem dX12_init_10 : decode cX12_init 10 = .ok (.putfield 13, 3) := by decide +kernel
theorem dX12_init_13 : decode cX12_init 13 = .ok (.aload_n 0, 1) := by decide +kernel
theorem dX12_init_14 : decode cX12_init 14 = .ok (.sipush 4232, 3) := by decide +kernel
theorem dX12_init_17 : decode cX12_init 17 = .ok (.newarray .int, 2) := by decide +kernel
theorem dX12_init_19 : decode cX12_init 19 = .ok (.putfield 17, 3) := by decide +kernel
theorem dX12_init_22 : decode cX12_init 22 = .ok (.aload_n 0, 1) := by decide +kernel
theorem dX12_init_23 : decode cX12_init 23 = .ok (.sipush 4232, 3) := by decide +kernel
theorem dX12_init_26 : decode cX12_init 26 = .ok (.newarray .int, 2) := by decide +kernel
theorem dX12_init_28 : decode cX12_init 28 = .ok (.putfield 20, 3) := by decide +kernel
theorem dX12_init_31 : decode cX12_init 31 = .ok (.aload_n 0, 1) := by decide +kernel
theorem dX12_init_32 : decode cX12_init 32 = .ok (.sipush 400, 3) := by decide +kernel
theorem dX12_init_35 : decode cX12_init 35 = .ok (.newarray .byte, 2) := by decide +kernel
theorem dX12_init_37 : decode cX12_init 37 = .ok (.putfield 23, 3) := by decide +kernel
theorem dX12_init_40 : decode cX12_init 40 = .ok (.aload_n 0, 1) := by decide +kernel
theorem dX12_init_41 : decode cX12_init 41 = .ok (.iconst (-1), 1) := by decide +kernel
theorem dX12_init_42 : decode cX12_init 42 = .ok (.putfield 27, 3) := by decide +kernel
theorem dX12_init_45 : decode cX12_init 45 = .ok (.aload_n 0, 1) := by decide +kernel
theorem dX12_init_46 : decode cX12_init 46 = .ok (.iconst 5, 1) := by decide +kernel
theorem dX12_init_47 : decode cX12_init 47 = .ok (.newarray .int, 2) := by decide +kernel
theorem dX12_init_49 : decode cX12_init 49 = .ok (.putfield 30, 3) := by decide +kernel
theorem dX12_init_52 : decode cX12_init 52 = .ok (.aload_n 0, 1) := by decide +kernel
theorem dX12_init_53 : decode cX12_init 53 = .ok (.bipush 60, 2) := by decide +kernel
theorem dX12_init_55 : decode cX12_init 55 = .ok (.newarray .int, 2) := by decide +kernel
theorem dX12_init_57 : decode cX12_init 57 = .ok (.putfield 33, 3) := by decide +kernel
theorem dX12_init_60 : decode cX12_init 60 = .ok (.aload_n 0, 1) := by decide +kernel
theorem dX12_init_61 : decode cX12_init 61 = .ok (.iconst 5, 1) := by decide +kernel
theorem dX12_init_62 : decode cX12_init 62 = .ok (.newarray .int, 2) := by decide +kernel
theorem dX12_init_64 : decode cX12_init 64 = .ok (.putfield 36, 3) := by decide +kernel
theorem dX12_init_67 : decode cX12_init 67 = .ok (.aload_n 0, 1) := by decide +kernel
theorem dX12_init_68 : decode cX12_init 68 = .ok (.sipush 400, 3) := by decide +kernel
theorem dX12_init_71 : decode cX12_init 71 = .ok (.newarray .int, 2) := by decide +kernel
theorem dX12_init_73 : decode cX12_init 73 = .ok (.putfield 39, 3) := by decide +kernel
theorem dX12_init_76 : decode cX12_init 76 = .ok (.aload_n 0, 1) := by decide +kernel
theorem dX12_init_77 : decode cX12_init 77 = .ok (.bipush 6, 2) := by decide +kernel
theorem dX12_init_79 : decode cX12_init 79 = .ok (.newarray .int, 2) := by decide +kernel
theorem dX12_init_81 : decode cX12_init 81 = .ok (.putfield 42, 3) := by decide +kernel
theorem dX12_init_84 : decode cX12_init 84 = .ok (.aload_n 0, 1) := by decide +kernel
theorem dX12_init_85 : decode cX12_init 85 = .ok (.ldc 45, 2) := by decide +kernel
theorem dX12_init_87 : decode cX12_init 87 = .ok (.newarray .boolean, 2) := by decide +kernel
theorem dX12_init_89 : decode cX12_init 89 = .ok (.putfield 46, 3) := by decide +kernel
theorem dX12_init_92 : decode cX12_init 92 = .ok (.aload_n 0, 1) := by decide +kernel
theorem dX12_init_93 : decode cX12_init 93 = .ok (.ldc 45, 2) := by decide +kernel
theorem dX12_init_95 : decode cX12_init 95 = .ok (.newarray .int, 2) := by decide +kernel
theorem dX12_init_97 : decode cX12_init 97 = .ok (.putfield 50, 3) := by decide +kernel
theorem dX12_init_100 : decode cX12_init 100 = .ok (.aload_n 0, 1) := by decide +kernel
theorem dX12_init_101 : decode cX12_init 101 = .ok (.ldc 45, 2) := by decide +kernel
theorem dX12_init_103 : decode cX12_init 103 = .ok (.newarray .int, 2) := by decide +kernel
theorem dX12_init_105 : decode cX12_init 105 = .ok (.putfield 53, 3) := by decide +kernel
theorem dX12_init_108 : decode cX12_init 108 = .ok (.aload_n 0, 1) := by decide +kernel
theorem dX12_init_109 : decode cX12_init 109 = .ok (.getfield 13, 3) := by decide +kernel
theorem dX12_init_112 : decode cX12_init 112 = .ok (.bipush 8, 2) := by decide +kernel
theorem dX12_init_114 : decode cX12_init 114 = .ok (.sipush 1000, 3) := by decide +kernel
theorem dX12_init_117 : decode cX12_init 117 = .ok (.iastore, 1) := by decide +kernel
theorem dX12_init_118 : decode cX12_init 118 = .ok (.aload_n 0, 1) := by decide +kernel
theorem dX12_init_119 : decode cX12_init 119 = .ok (.getfield 13, 3) := by decide +kernel
theorem dX12_init_122 : decode cX12_init 122 = .ok (.bipush 9, 2) := by decide +kernel
theorem dX12_init_124 : decode cX12_init 124 = .ok (.sipush 2000, 3) := by decide +kernel
theorem dX12_init_127 : decode cX12_init 127 = .ok (.iastore, 1) := by decide +kernel
theorem dX12_init_128 : decode cX12_init 128 = .ok (.aload_n 0, 1) := by decide +kernel
theorem dX12_init_129 : decode cX12_init 129 = .ok (.getfield 13, 3) := by decide +kernel
theorem dX12_init_132 : decode cX12_init 132 = .ok (.bipush 10, 2) := by decide +kernel
theorem dX12_init_134 : decode cX12_init 134 = .ok (.iconst 1, 1) := by decide +kernel
theorem dX12_init_135 : decode cX12_init 135 = .ok (.iastore, 1) := by decide +kernel
theorem dX12_init_136 : decode cX12_init 136 = .ok (.return_, 1) := by decide +kernel
set_option maxRecDepth 100000 in
def F_X12_init_b0 (v0 : Nat) (h : Hp) : Option (Unit × Hp × Nat × Nat) :=
  ob (some (zN h)) fun q1 => ac 1 ((5049 : Int32)).toNatClampNeg <| gd (decide (kd (alloc h 13 ((5049 : Int32)).toNatClampNeg) v0 = 11)) <| ob (some (zN (setR (alloc h 13 ((5049 : Int32)).toNatClampNeg) v0 1 (some q1)))) fun q6 => ac 1 ((4232 : Int32)).toNatClampNeg <| ob (some (setR (alloc (setR (alloc h 13 ((5049 : Int32)).toNatClampNeg) v0 1 (some q1)) 13 ((4232 : Int32)).toNatClampNeg) v0 2 (some q6))) fun h10 => ob (some (zN h10)) fun q15 => ac 1 ((4232 : Int32)).toNatClampNeg <| ob (some (zN (setR (alloc h10 13 ((4232 : Int32)).toNatClampNeg) v0 3 (some q15)))) fun q19 => ac 1 ((400 : Int32)).toNatClampNeg <| ob (some (setR (alloc (setR (alloc h10 13 ((4232 : Int32)).toNatClampNeg) v0 3 (some q15)) 12 ((400 : Int32)).toNatClampNeg) v0 5 (some q19))) fun h23 => ob (some (zN (setI h23 v0 11 (-1 : Int32)))) fun q30 => ac 1 ((5 : Int32)).toNatClampNeg <| ob (some (zN (setR (alloc (setI h23 v0 11 (-1 : Int32)) 13 ((5 : Int32)).toNatClampNeg) v0 12 (some q30)))) fun q34 => ac 1 ((60 : Int32)).toNatClampNeg <| ob (some (alloc (setR (alloc (setI h23 v0 11 (-1 : Int32)) 13 ((5 : Int32)).toNatClampNeg) v0 12 (some q30)) 13 ((60 : Int32)).toNatClampNeg)) fun h38 => ob (some (zN (setR h38 v0 14 (some q34)))) fun q47 => ac 1 ((5 : Int32)).toNatClampNeg <| ob (some (zN (setR (alloc (setR h38 v0 14 (some q34)) 13 ((5 : Int32)).toNatClampNeg) v0 15 (some q47)))) fun q51 => ac 1 ((400 : Int32)).toNatClampNeg <| ob (some (alloc (setR (alloc (setR h38 v0 14 (some q34)) 13 ((5 : Int32)).toNatClampNeg) v0 15 (some q47)) 13 ((400 : Int32)).toNatClampNeg)) fun h55 => ob (some (zN (setR h55 v0 16 (some q51)))) fun q66 => ac 1 ((6 : Int32)).toNatClampNeg <| ob (some (zN (setR (alloc (setR h55 v0 16 (some q51)) 13 ((6 : Int32)).toNatClampNeg) v0 19 (some q66)))) fun q70 => ac 1 ((32768 : Int32)).toNatClampNeg <| ob (some (alloc (setR (alloc (setR h55 v0 16 (some q51)) 13 ((6 : Int32)).toNatClampNeg) v0 19 (some q66)) 14 ((32768 : Int32)).toNatClampNeg)) fun h74 => ob (some (zN (setR h74 v0 20 (some q70)))) fun q87 => ac 1 ((32768 : Int32)).toNatClampNeg <| ob (some (zN (setR (alloc (setR h74 v0 20 (some q70)) 13 ((32768 : Int32)).toNatClampNeg) v0 21 (some q87)))) fun q91 => ac 1 ((32768 : Int32)).toNatClampNeg <| ob (some (alloc (setR (alloc (setR h74 v0 20 (some q70)) 13 ((32768 : Int32)).toNatClampNeg) v0 21 (some q87)) 13 ((32768 : Int32)).toNatClampNeg)) fun h95 => ob (zR (setR h95 v0 22 (some q91)) v0 1) fun q110 => gd (decide (kd (setR h95 v0 22 (some q91)) q110 = 13)) <| gd (ix (8 : Int32) (zl (setR h95 v0 22 (some q91)) q110)) <| ob (zR (setI (setR h95 v0 22 (some q91)) q110 ((8 : Int32)).toNatClampNeg (1000 : Int32)) v0 1) fun q114 => gd (decide (kd (setI (setR h95 v0 22 (some q91)) q110 ((8 : Int32)).toNatClampNeg (1000 : Int32)) q114 = 13)) <| gd (ix (9 : Int32) (zl (setI (setR h95 v0 22 (some q91)) q110 ((8 : Int32)).toNatClampNeg (1000 : Int32)) q114)) <| ob (some (setI (setI (setR h95 v0 22 (some q91)) q110 ((8 : Int32)).toNatClampNeg (1000 : Int32)) q114 ((9 : Int32)).toNatClampNeg (2000 : Int32))) fun h118 => ob (zR h118 v0 1) fun q135 => gd (decide (kd h118 q135 = 13)) <| gd (ix (10 : Int32) (zl h118 q135)) <| some ((), setI h118 q135 ((10 : Int32)).toNatClampNeg (1 : Int32), 0, 0)
set_option maxHeartbeats 4000000 in
set_option maxRecDepth 100000 in
theorem r_X12_init_b0 (v0 : Nat) (h : Hp) {x : Cx} {r : Unit} {hz : Hp} {c9 s9 : Nat} (e : F_X12_init_b0 v0 h = some (r, hz, c9, s9)) (hF : Fin9 M_X12_init x none none hz) : V M_X12_init x 1 0 [(0, .ref v0)] [] h c9 s9 := by
  unfold F_X12_init_b0 at e
  refine V_aload_n (pc := 0) (i := 0) dX12_init_0 rfl rfl ?_
  refine V_objI (pc := 1) dX12_init_1 wo_X12_7 (by decide) (Nat.le_of_ble_eq_true rfl) ?_
  refine V_aload_n (pc := 4) (i := 0) dX12_init_4 rfl rfl ?_
  refine V_sipush (pc := 5) (v := (5049 : Int32)) dX12_init_5 (by decide) ?_
  replace e := ob_some e
  obtain ⟨q1, g2, e⟩ := e
  replace e := ac_some e
  obtain ⟨n3, n4, e, hc9, hs9⟩ := e
  rw [hc9, hs9]
  clear hc9 hs9
  refine V_newIQ (pc := 8) (n := (5049 : Int32)) dX12_init_8 wa_int (by decide) (by decide) (q := q1) (bc := n3) (bs := n4) (Option.some.inj g2) ?_
  replace e := gd_some e
  obtain ⟨g5, e⟩ := e
  refine V_putRF (pc := 10) (ci := 11) (k := 1) dX12_init_10 fp_X12_13 rfl (of_decide_eq_true g5) (fun _ => ⟨rfl, rfl⟩) rfl ?_
  refine V_aload_n (pc := 13) (i := 0) dX12_init_13 rfl rfl ?_
  refine V_sipush (pc := 14) (v := (4232 : Int32)) dX12_init_14 (by decide) ?_
  replace e := ob_some e
  obtain ⟨q6, g7, e⟩ := e
  replace e := ac_some e
  obtain ⟨n8, n9, e, hc9, hs9⟩ := e
  rw [hc9, hs9]
  clear hc9 hs9
  refine V_newIQ (pc := 17) (n := (4232 : Int32)) dX12_init_17 wa_int (by decide) (by decide) (q := q6) (bc := n8) (bs := n9) (Option.some.inj g7) ?_
  refine V_putRF (pc := 19) (ci := 11) (k := 2) dX12_init_19 fp_X12_17 rfl (kd_old (kd_sR (of_decide_eq_true g5)) (by decide)) (fun _ => ⟨rfl, rfl⟩) rfl ?_
  replace e := ob_some e
  obtain ⟨h10, g11, e⟩ := e
  refine V_hp (Option.some.inj g11) ?_
  have k12 : kd h10 q1 = 13 := kd_eq (h := (setR (alloc (setR (alloc h 13 ((5049 : Int32)).toNatClampNeg) v0 1 (some q1)) 13 ((4232 : Int32)).toNatClampNeg) v0 2 (some q6))) (Option.some.inj g11) (kd_sR (kd_old (kd_sR (kd_newq (Option.some.inj g2))) (by decide)))
  have k13 : kd h10 v0 = 11 := kd_eq (h := (setR (alloc (setR (alloc h 13 ((5049 : Int32)).toNatClampNeg) v0 1 (some q1)) 13 ((4232 : Int32)).toNatClampNeg) v0 2 (some q6))) (Option.some.inj g11) (kd_sR (kd_old (kd_sR (of_decide_eq_true g5)) (by decide)))
  have k14 : kd h10 q6 = 13 := kd_eq (h := (setR (alloc (setR (alloc h 13 ((5049 : Int32)).toNatClampNeg) v0 1 (some q1)) 13 ((4232 : Int32)).toNatClampNeg) v0 2 (some q6))) (Option.some.inj g11) (kd_sR (kd_newq (Option.some.inj g7)))
  refine V_aload_n (pc := 22) (i := 0) dX12_init_22 rfl rfl ?_
  refine V_sipush (pc := 23) (v := (4232 : Int32)) dX12_init_23 (by decide) ?_
  replace e := ob_some e
  obtain ⟨q15, g16, e⟩ := e
  replace e := ac_some e
  obtain ⟨n17, n18, e, hc9, hs9⟩ := e
  rw [hc9, hs9]
  clear hc9 hs9
  refine V_newIQ (pc := 26) (n := (4232 : Int32)) dX12_init_26 wa_int (by decide) (by decide) (q := q15) (bc := n17) (bs := n18) (Option.some.inj g16) ?_
  refine V_putRF (pc := 28) (ci := 11) (k := 3) dX12_init_28 fp_X12_20 rfl (kd_old k13 (by decide)) (fun _ => ⟨rfl, rfl⟩) rfl ?_
  refine V_aload_n (pc := 31) (i := 0) dX12_init_31 rfl rfl ?_
  refine V_sipush (pc := 32) (v := (400 : Int32)) dX12_init_32 (by decide) ?_
  replace e := ob_some e
  obtain ⟨q19, g20, e⟩ := e
  replace e := ac_some e
  obtain ⟨n21, n22, e, hc9, hs9⟩ := e
  rw [hc9, hs9]
  clear hc9 hs9
  refine V_newBQ (pc := 35) (n := (400 : Int32)) dX12_init_35 wa_byte (by decide) (by decide) (q := q19) (bc := n21) (bs := n22) (Option.some.inj g20) ?_
  refine V_putRF (pc := 37) (ci := 11) (k := 5) dX12_init_37 fp_X12_23 rfl (kd_old (kd_sR (kd_old k13 (by decide))) (by decide)) (fun _ => ⟨rfl, rfl⟩) rfl ?_
  replace e := ob_some e
  obtain ⟨h23, g24, e⟩ := e
  refine V_hp (Option.some.inj g24) ?_
  have k25 : kd h23 q1 = 13 := kd_eq (h := (setR (alloc (setR (alloc h10 13 ((4232 : Int32)).toNatClampNeg) v0 3 (some q15)) 12 ((400 : Int32)).toNatClampNeg) v0 5 (some q19))) (Option.some.inj g24) (kd_sR (kd_old (kd_sR (kd_old k12 (by decide))) (by decide)))
  have k26 : kd h23 v0 = 11 := kd_eq (h := (setR (alloc (setR (alloc h10 13 ((4232 : Int32)).toNatClampNeg) v0 3 (some q15)) 12 ((400 : Int32)).toNatClampNeg) v0 5 (some q19))) (Option.some.inj g24) (kd_sR (kd_old (kd_sR (kd_old k13 (by decide))) (by decide)))
  have k27 : kd h23 q6 = 13 := kd_eq (h := (setR (alloc (setR (alloc h10 13 ((4232 : Int32)).toNatClampNeg) v0 3 (some q15)) 12 ((400 : Int32)).toNatClampNeg) v0 5 (some q19))) (Option.some.inj g24) (kd_sR (kd_old (kd_sR (kd_old k14 (by decide))) (by decide)))
  have k28 : kd h23 q15 = 13 := kd_eq (h := (setR (alloc (setR (alloc h10 13 ((4232 : Int32)).toNatClampNeg) v0 3 (some q15)) 12 ((400 : Int32)).toNatClampNeg) v0 5 (some q19))) (Option.some.inj g24) (kd_sR (kd_old (kd_sR (kd_newq (Option.some.inj g16))) (by decide)))
  have k29 : kd h23 q19 = 12 := kd_eq (h := (setR (alloc (setR (alloc h10 13 ((4232 : Int32)).toNatClampNeg) v0 3 (some q15)) 12 ((400 : Int32)).toNatClampNeg) v0 5 (some q19))) (Option.some.inj g24) (kd_sR (kd_newq (Option.some.inj g20)))
  refine V_aload_n (pc := 40) (i := 0) dX12_init_40 rfl rfl ?_
  refine V_iconst (pc := 41) (v := (-1 : Int32)) dX12_init_41 (by decide) ?_
  refine V_putI (pc := 42) (ci := 11) (k := 11) dX12_init_42 fp_X12_27 rfl k26 ?_
  refine V_aload_n (pc := 45) (i := 0) dX12_init_45 rfl rfl ?_
  refine V_iconst (pc := 46) (v := (5 : Int32)) dX12_init_46 (by decide) ?_
  replace e := ob_some e
  obtain ⟨q30, g31, e⟩ := e
  replace e := ac_some e
  obtain ⟨n32, n33, e, hc9, hs9⟩ := e
  rw [hc9, hs9]
  clear hc9 hs9
  refine V_newIQ (pc := 47) (n := (5 : Int32)) dX12_init_47 wa_int (by decide) (by decide) (q := q30) (bc := n32) (bs := n33) (Option.some.inj g31) ?_
  refine V_putRF (pc := 49) (ci := 11) (k := 12) dX12_init_49 fp_X12_30 rfl (kd_old (kd_sI k26) (by decide)) (fun _ => ⟨rfl, rfl⟩) rfl ?_
  refine V_aload_n (pc := 52) (i := 0) dX12_init_52 rfl rfl ?_
  refine V_bipush (pc := 53) (v := (60 : Int32)) dX12_init_53 (by decide) ?_
  replace e := ob_some e
  obtain ⟨q34, g35, e⟩ := e
  replace e := ac_some e
  obtain ⟨n36, n37, e, hc9, hs9⟩ := e
  rw [hc9, hs9]
  clear hc9 hs9
  refine V_newIQ (pc := 55) (n := (60 : Int32)) dX12_init_55 wa_int (by decide) (by decide) (q := q34) (bc := n36) (bs := n37) (Option.some.inj g35) ?_
  replace e := ob_some e
  obtain ⟨h38, g39, e⟩ := e
  refine V_hp (Option.some.inj g39) ?_
  have k40 : kd h38 q1 = 13 := kd_eq (h := (alloc (setR (alloc (setI h23 v0 11 (-1 : Int32)) 13 ((5 : Int32)).toNatClampNeg) v0 12 (some q30)) 13 ((60 : Int32)).toNatClampNeg)) (Option.some.inj g39) (kd_old (kd_sR (kd_old (kd_sI k25) (by decide))) (by decide))
  have k41 : kd h38 v0 = 11 := kd_eq (h := (alloc (setR (alloc (setI h23 v0 11 (-1 : Int32)) 13 ((5 : Int32)).toNatClampNeg) v0 12 (some q30)) 13 ((60 : Int32)).toNatClampNeg)) (Option.some.inj g39) (kd_old (kd_sR (kd_old (kd_sI k26) (by decide))) (by decide))
  have k42 : kd h38 q6 = 13 := kd_eq (h := (alloc (setR (alloc (setI h23 v0 11 (-1 : Int32)) 13 ((5 : Int32)).toNatClampNeg) v0 12 (some q30)) 13 ((60 : Int32)).toNatClampNeg)) (Option.some.inj g39) (kd_old (kd_sR (kd_old (kd_sI k27) (by decide))) (by decide))
  have k43 : kd h38 q15 = 13 := kd_eq (h := (alloc (setR (alloc (setI h23 v0 11 (-1 : Int32)) 13 ((5 : Int32)).toNatClampNeg) v0 12 (some q30)) 13 ((60 : Int32)).toNatClampNeg)) (Option.some.inj g39) (kd_old (kd_sR (kd_old (kd_sI k28) (by decide))) (by decide))
  have k44 : kd h38 q19 = 12 := kd_eq (h := (alloc (setR (alloc (setI h23 v0 11 (-1 : Int32)) 13 ((5 : Int32)).toNatClampNeg) v0 12 (some q30)) 13 ((60 : Int32)).toNatClampNeg)) (Option.some.inj g39) (kd_old (kd_sR (kd_old (kd_sI k29) (by decide))) (by decide))
  have k45 : kd h38 q30 = 13 := kd_eq (h := (alloc (setR (alloc (setI h23 v0 11 (-1 : Int32)) 13 ((5 : Int32)).toNatClampNeg) v0 12 (some q30)) 13 ((60 : Int32)).toNatClampNeg)) (Option.some.inj g39) (kd_old (kd_sR (kd_newq (Option.some.inj g31))) (by decide))
  have k46 : kd h38 q34 = 13 := kd_eq (h := (alloc (setR (alloc (setI h23 v0 11 (-1 : Int32)) 13 ((5 : Int32)).toNatClampNeg) v0 12 (some q30)) 13 ((60 : Int32)).toNatClampNeg)) (Option.some.inj g39) (kd_newq (Option.some.inj g35))
  refine V_putRF (pc := 57) (ci := 11) (k := 14) dX12_init_57 fp_X12_33 rfl k41 (fun _ => ⟨rfl, rfl⟩) rfl ?_
  refine V_aload_n (pc := 60) (i := 0) dX12_init_60 rfl rfl ?_
  refine V_iconst (pc := 61) (v := (5 : Int32)) dX12_init_61 (by decide) ?_
  replace e := ob_some e
  obtain ⟨q47, g48, e⟩ := e
  replace e := ac_some e
  obtain ⟨n49, n50, e, hc9, hs9⟩ := e
  rw [hc9, hs9]
  clear hc9 hs9
  refine V_newIQ (pc := 62) (n := (5 : Int32)) dX12_init_62 wa_int (by decide) (by decide) (q := q47) (bc := n49) (bs := n50) (Option.some.inj g48) ?_
  refine V_putRF (pc := 64) (ci := 11) (k := 15) dX12_init_64 fp_X12_36 rfl (kd_old (kd_sR k41) (by decide)) (fun _ => ⟨rfl, rfl⟩) rfl ?_
  refine V_aload_n (pc := 67) (i := 0) dX12_init_67 rfl rfl ?_
  refine V_sipush (pc := 68) (v := (400 : Int32)) dX12_init_68 (by decide) ?_
  replace e := ob_some e
  obtain ⟨q51, g52, e⟩ := e
  replace e := ac_some e
  obtain ⟨n53, n54, e, hc9, hs9⟩ := e
  rw [hc9, hs9]
  clear hc9 hs9
  refine V_newIQ (pc := 71) (n := (400 : Int32)) dX12_init_71 wa_int (by decide) (by decide) (q := q51) (bc := n53) (bs := n54) (Option.some.inj g52) ?_
  replace e := ob_some e
  obtain ⟨h55, g56, e⟩ := e
  refine V_hp (Option.some.inj g56) ?_
  have k57 : kd h55 q1 = 13 := kd_eq (h := (alloc (setR (alloc (setR h38 v0 14 (some q34)) 13 ((5 : Int32)).toNatClampNeg) v0 15 (some q47)) 13 ((400 : Int32)).toNatClampNeg)) (Option.some.inj g56) (kd_old (kd_sR (kd_old (kd_sR k40) (by decide))) (by decide))
  have k58 : kd h55 v0 = 11 := kd_eq (h := (alloc (setR (alloc (setR h38 v0 14 (some q34)) 13 ((5 : Int32)).toNatClampNeg) v0 15 (some q47)) 13 ((400 : Int32)).toNatClampNeg)) (Option.some.inj g56) (kd_old (kd_sR (kd_old (kd_sR k41) (by decide))) (by decide))
  have k59 : kd h55 q6 = 13 := kd_eq (h := (alloc (setR (alloc (setR h38 v0 14 (some q34)) 13 ((5 : Int32)).toNatClampNeg) v0 15 (some q47)) 13 ((400 : Int32)).toNatClampNeg)) (Option.some.inj g56) (kd_old (kd_sR (kd_old (kd_sR k42) (by decide))) (by decide))
  have k60 : kd h55 q15 = 13 := kd_eq (h := (alloc (setR (alloc (setR h38 v0 14 (some q34)) 13 ((5 : Int32)).toNatClampNeg) v0 15 (some q47)) 13 ((400 : Int32)).toNatClampNeg)) (Option.some.inj g56) (kd_old (kd_sR (kd_old (kd_sR k43) (by decide))) (by decide))
  have k61 : kd h55 q19 = 12 := kd_eq (h := (alloc (setR (alloc (setR h38 v0 14 (some q34)) 13 ((5 : Int32)).toNatClampNeg) v0 15 (some q47)) 13 ((400 : Int32)).toNatClampNeg)) (Option.some.inj g56) (kd_old (kd_sR (kd_old (kd_sR k44) (by decide))) (by decide))
  have k62 : kd h55 q30 = 13 := kd_eq (h := (alloc (setR (alloc (setR h38 v0 14 (some q34)) 13 ((5 : Int32)).toNatClampNeg) v0 15 (some q47)) 13 ((400 : Int32)).toNatClampNeg)) (Option.some.inj g56) (kd_old (kd_sR (kd_old (kd_sR k45) (by decide))) (by decide))
  have k63 : kd h55 q34 = 13 := kd_eq (h := (alloc (setR (alloc (setR h38 v0 14 (some q34)) 13 ((5 : Int32)).toNatClampNeg) v0 15 (some q47)) 13 ((400 : Int32)).toNatClampNeg)) (Option.some.inj g56) (kd_old (kd_sR (kd_old (kd_sR k46) (by decide))) (by decide))
  have k64 : kd h55 q47 = 13 := kd_eq (h := (alloc (setR (alloc (setR h38 v0 14 (some q34)) 13 ((5 : Int32)).toNatClampNeg) v0 15 (some q47)) 13 ((400 : Int32)).toNatClampNeg)) (Option.some.inj g56) (kd_old (kd_sR (kd_newq (Option.some.inj g48))) (by decide))
  have k65 : kd h55 q51 = 13 := kd_eq (h := (alloc (setR (alloc (setR h38 v0 14 (some q34)) 13 ((5 : Int32)).toNatClampNeg) v0 15 (some q47)) 13 ((400 : Int32)).toNatClampNeg)) (Option.some.inj g56) (kd_newq (Option.some.inj g52))
  refine V_putRF (pc := 73) (ci := 11) (k := 16) dX12_init_73 fp_X12_39 rfl k58 (fun _ => ⟨rfl, rfl⟩) rfl ?_
  refine V_aload_n (pc := 76) (i := 0) dX12_init_76 rfl rfl ?_
  refine V_bipush (pc := 77) (v := (6 : Int32)) dX12_init_77 (by decide) ?_
  replace e := ob_some e
  obtain ⟨q66, g67, e⟩ := e
  replace e := ac_some e
  obtain ⟨n68, n69, e, hc9, hs9⟩ := e
  rw [hc9, hs9]
  clear hc9 hs9
  refine V_newIQ (pc := 79) (n := (6 : Int32)) dX12_init_79 wa_int (by decide) (by decide) (q := q66) (bc := n68) (bs := n69) (Option.some.inj g67) ?_
  refine V_putRF (pc := 81) (ci := 11) (k := 19) dX12_init_81 fp_X12_42 rfl (kd_old (kd_sR k58) (by decide)) (fun _ => ⟨rfl, rfl⟩) rfl ?_
  refine V_aload_n (pc := 84) (i := 0) dX12_init_84 rfl rfl ?_
  refine V_ldc (pc := 85) (v := (32768 : Int32)) dX12_init_85 (wk_X12_45) ?_
  replace e := ob_some e
  obtain ⟨q70, g71, e⟩ := e
  replace e := ac_some e
  obtain ⟨n72, n73, e, hc9, hs9⟩ := e
  rw [hc9, hs9]
  clear hc9 hs9
  refine V_newZQ (pc := 87) (n := (32768 : Int32)) dX12_init_87 wa_boolean (by decide) (by decide) (q := q70) (bc := n72) (bs := n73) (Option.some.inj g71) ?_
  replace e := ob_some e
  obtain ⟨h74, g75, e⟩ := e
  refine V_hp (Option.some.inj g75) ?_
  have k76 : kd h74 q1 = 13 := kd_eq (h := (alloc (setR (alloc (setR h55 v0 16 (some q51)) 13 ((6 : Int32)).toNatClampNeg) v0 19 (some q66)) 14 ((32768 : Int32)).toNatClampNeg)) (Option.some.inj g75) (kd_old (kd_sR (kd_old (kd_sR k57) (by decide))) (by decide))
  have k77 : kd h74 v0 = 11 := kd_eq (h := (alloc (setR (alloc (setR h55 v0 16 (some q51)) 13 ((6 : Int32)).toNatClampNeg) v0 19 (some q66)) 14 ((32768 : Int32)).toNatClampNeg)) (Option.some.inj g75) (kd_old (kd_sR (kd_old (kd_sR k58) (by decide))) (by decide))
  have k78 : kd h74 q6 = 13 := kd_eq (h := (alloc (setR (alloc (setR h55 v0 16 (some q51)) 13 ((6 : Int32)).toNatClampNeg) v0 19 (some q66)) 14 ((32768 : Int32)).toNatClampNeg)) (Option.some.inj g75) (kd_old (kd_sR (kd_old (kd_sR k59) (by decide))) (by decide))
  have k79 : kd h74 q15 = 13 := kd_eq (h := (alloc (setR (alloc (setR h55 v0 16 (some q51)) 13 ((6 : Int32)).toNatClampNeg) v0 19 (some q66)) 14 ((32768 : Int32)).toNatClampNeg)) (Option.some.inj g75) (kd_old (kd_sR (kd_old (kd_sR k60) (by decide))) (by decide))
  have k80 : kd h74 q19 = 12 := kd_eq (h := (alloc (setR (alloc (setR h55 v0 16 (some q51)) 13 ((6 : Int32)).toNatClampNeg) v0 19 (some q66)) 14 ((32768 : Int32)).toNatClampNeg)) (Option.some.inj g75) (kd_old (kd_sR (kd_old (kd_sR k61) (by decide))) (by decide))
  have k81 : kd h74 q30 = 13 := kd_eq (h := (alloc (setR (alloc (setR h55 v0 16 (some q51)) 13 ((6 : Int32)).toNatClampNeg) v0 19 (some q66)) 14 ((32768 : Int32)).toNatClampNeg)) (Option.some.inj g75) (kd_old (kd_sR (kd_old (kd_sR k62) (by decide))) (by decide))
  have k82 : kd h74 q34 = 13 := kd_eq (h := (alloc (setR (alloc (setR h55 v0 16 (some q51)) 13 ((6 : Int32)).toNatClampNeg) v0 19 (some q66)) 14 ((32768 : Int32)).toNatClampNeg)) (Option.some.inj g75) (kd_old (kd_sR (kd_old (kd_sR k63) (by decide))) (by decide))
  have k83 : kd h74 q47 = 13 := kd_eq (h := (alloc (setR (alloc (setR h55 v0 16 (some q51)) 13 ((6 : Int32)).toNatClampNeg) v0 19 (some q66)) 14 ((32768 : Int32)).toNatClampNeg)) (Option.some.inj g75) (kd_old (kd_sR (kd_old (kd_sR k64) (by decide))) (by decide))
  have k84 : kd h74 q51 = 13 := kd_eq (h := (alloc (setR (alloc (setR h55 v0 16 (some q51)) 13 ((6 : Int32)).toNatClampNeg) v0 19 (some q66)) 14 ((32768 : Int32)).toNatClampNeg)) (Option.some.inj g75) (kd_old (kd_sR (kd_old (kd_sR k65) (by decide))) (by decide))
  have k85 : kd h74 q66 = 13 := kd_eq (h := (alloc (setR (alloc (setR h55 v0 16 (some q51)) 13 ((6 : Int32)).toNatClampNeg) v0 19 (some q66)) 14 ((32768 : Int32)).toNatClampNeg)) (Option.some.inj g75) (kd_old (kd_sR (kd_newq (Option.some.inj g67))) (by decide))
  have k86 : kd h74 q70 = 14 := kd_eq (h := (alloc (setR (alloc (setR h55 v0 16 (some q51)) 13 ((6 : Int32)).toNatClampNeg) v0 19 (some q66)) 14 ((32768 : Int32)).toNatClampNeg)) (Option.some.inj g75) (kd_newq (Option.some.inj g71))
  refine V_putRF (pc := 89) (ci := 11) (k := 20) dX12_init_89 fp_X12_46 rfl k77 (fun _ => ⟨rfl, rfl⟩) rfl ?_
  refine V_aload_n (pc := 92) (i := 0) dX12_init_92 rfl rfl ?_
  refine V_ldc (pc := 93) (v := (32768 : Int32)) dX12_init_93 (wk_X12_45) ?_
  replace e := ob_some e
  obtain ⟨q87, g88, e⟩ := e
  replace e := ac_some e
  obtain ⟨n89, n90, e, hc9, hs9⟩ := e
  rw [hc9, hs9]
  clear hc9 hs9
  refine V_newIQ (pc := 95) (n := (32768 : Int32)) dX12_init_95 wa_int (by decide) (by decide) (q := q87) (bc := n89) (bs := n90) (Option.some.inj g88) ?_
  refine V_putRF (pc := 97) (ci := 11) (k := 21) dX12_init_97 fp_X12_50 rfl (kd_old (kd_sR k77) (by decide)) (fun _ => ⟨rfl, rfl⟩) rfl ?_
  refine V_aload_n (pc := 100) (i := 0) dX12_init_100 rfl rfl ?_
  refine V_ldc (pc := 101) (v := (32768 : Int32)) dX12_init_101 (wk_X12_45) ?_
  replace e := ob_some e
  obtain ⟨q91, g92, e⟩ := e
  replace e := ac_some e
  obtain ⟨n93, n94, e, hc9, hs9⟩ := e
  rw [hc9, hs9]
  clear hc9 hs9
  refine V_newIQ (pc := 103) (n := (32768 : Int32)) dX12_init_103 wa_int (by decide) (by decide) (q := q91) (bc := n93) (bs := n94) (Option.some.inj g92) ?_
  replace e := ob_some e
  obtain ⟨h95, g96, e⟩ := e
  refine V_hp (Option.some.inj g96) ?_
  have k97 : kd h95 q1 = 13 := kd_eq (h := (alloc (setR (alloc (setR h74 v0 20 (some q70)) 13 ((32768 : Int32)).toNatClampNeg) v0 21 (some q87)) 13 ((32768 : Int32)).toNatClampNeg)) (Option.some.inj g96) (kd_old (kd_sR (kd_old (kd_sR k76) (by decide))) (by decide))
  have k98 : kd h95 v0 = 11 := kd_eq (h := (alloc (setR (alloc (setR h74 v0 20 (some q70)) 13 ((32768 : Int32)).toNatClampNeg) v0 21 (some q87)) 13 ((32768 : Int32)).toNatClampNeg)) (Option.some.inj g96) (kd_old (kd_sR (kd_old (kd_sR k77) (by decide))) (by decide))
  have k99 : kd h95 q6 = 13 := kd_eq (h := (alloc (setR (alloc (setR h74 v0 20 (some q70)) 13 ((32768 : Int32)).toNatClampNeg) v0 21 (some q87)) 13 ((32768 : Int32)).toNatClampNeg)) (Option.some.inj g96) (kd_old (kd_sR (kd_old (kd_sR k78) (by decide))) (by decide))
  have k100 : kd h95 q15 = 13 := kd_eq (h := (alloc (setR (alloc (setR h74 v0 20 (some q70)) 13 ((32768 : Int32)).toNatClampNeg) v0 21 (some q87)) 13 ((32768 : Int32)).toNatClampNeg)) (Option.some.inj g96) (kd_old (kd_sR (kd_old (kd_sR k79) (by decide))) (by decide))
  have k101 : kd h95 q19 = 12 := kd_eq (h := (alloc (setR (alloc (setR h74 v0 20 (some q70)) 13 ((32768 : Int32)).toNatClampNeg) v0 21 (some q87)) 13 ((32768 : Int32)).toNatClampNeg)) (Option.some.inj g96) (kd_old (kd_sR (kd_old (kd_sR k80) (by decide))) (by decide))
  have k102 : kd h95 q30 = 13 := kd_eq (h := (alloc (setR (alloc (setR h74 v0 20 (some q70)) 13 ((32768 : Int32)).toNatClampNeg) v0 21 (some q87)) 13 ((32768 : Int32)).toNatClampNeg)) (Option.some.inj g96) (kd_old (kd_sR (kd_old (kd_sR k81) (by decide))) (by decide))
  have k103 : kd h95 q34 = 13 := kd_eq (h := (alloc (setR (alloc (setR h74 v0 20 (some q70)) 13 ((32768 : Int32)).toNatClampNeg) v0 21 (some q87)) 13 ((32768 : Int32)).toNatClampNeg)) (Option.some.inj g96) (kd_old (kd_sR (kd_old (kd_sR k82) (by decide))) (by decide))
  have k104 : kd h95 q47 = 13 := kd_eq (h := (alloc (setR (alloc (setR h74 v0 20 (some q70)) 13 ((32768 : Int32)).toNatClampNeg) v0 21 (some q87)) 13 ((32768 : Int32)).toNatClampNeg)) (Option.some.inj g96) (kd_old (kd_sR (kd_old (kd_sR k83) (by decide))) (by decide))
  have k105 : kd h95 q51 = 13 := kd_eq (h := (alloc (setR (alloc (setR h74 v0 20 (some q70)) 13 ((32768 : Int32)).toNatClampNeg) v0 21 (some q87)) 13 ((32768 : Int32)).toNatClampNeg)) (Option.some.inj g96) (kd_old (kd_sR (kd_old (kd_sR k84) (by decide))) (by decide))
  have k106 : kd h95 q66 = 13 := kd_eq (h := (alloc (setR (alloc (setR h74 v0 20 (some q70)) 13 ((32768 : Int32)).toNatClampNeg) v0 21 (some q87)) 13 ((32768 : Int32)).toNatClampNeg)) (Option.some.inj g96) (kd_old (kd_sR (kd_old (kd_sR k85) (by decide))) (by decide))
  have k107 : kd h95 q70 = 14 := kd_eq (h := (alloc (setR (alloc (setR h74 v0 20 (some q70)) 13 ((32768 : Int32)).toNatClampNeg) v0 21 (some q87)) 13 ((32768 : Int32)).toNatClampNeg)) (Option.some.inj g96) (kd_old (kd_sR (kd_old (kd_sR k86) (by decide))) (by decide))
  have k108 : kd h95 q87 = 13 := kd_eq (h := (alloc (setR (alloc (setR h74 v0 20 (some q70)) 13 ((32768 : Int32)).toNatClampNeg) v0 21 (some q87)) 13 ((32768 : Int32)).toNatClampNeg)) (Option.some.inj g96) (kd_old (kd_sR (kd_newq (Option.some.inj g88))) (by decide))
  have k109 : kd h95 q91 = 13 := kd_eq (h := (alloc (setR (alloc (setR h74 v0 20 (some q70)) 13 ((32768 : Int32)).toNatClampNeg) v0 21 (some q87)) 13 ((32768 : Int32)).toNatClampNeg)) (Option.some.inj g96) (kd_newq (Option.some.inj g92))
  refine V_putRF (pc := 105) (ci := 11) (k := 22) dX12_init_105 fp_X12_53 rfl k98 (fun _ => ⟨rfl, rfl⟩) rfl ?_
  refine V_aload_n (pc := 108) (i := 0) dX12_init_108 rfl rfl ?_
  replace e := ob_some e
  obtain ⟨q110, g111, e⟩ := e
  refine V_getR (pc := 109) (ci := 11) (k := 1) (b := q110) dX12_init_109 fl_X12_13 rfl (kd_sR k98) g111 ?_
  refine V_bipush (pc := 112) (v := (8 : Int32)) dX12_init_112 (by decide) ?_
  refine V_sipush (pc := 114) (v := (1000 : Int32)) dX12_init_114 (by decide) ?_
  replace e := gd_some e
  obtain ⟨g112, e⟩ := e
  replace e := gd_some e
  obtain ⟨g113, e⟩ := e
  refine V_iast (pc := 117) dX12_init_117 (of_decide_eq_true g112) (ix_in g113) ?_
  refine V_aload_n (pc := 118) (i := 0) dX12_init_118 rfl rfl ?_
  replace e := ob_some e
  obtain ⟨q114, g115, e⟩ := e
  refine V_getR (pc := 119) (ci := 11) (k := 1) (b := q114) dX12_init_119 fl_X12_13 rfl (kd_sI (kd_sR k98)) g115 ?_
  refine V_bipush (pc := 122) (v := (9 : Int32)) dX12_init_122 (by decide) ?_
  refine V_sipush (pc := 124) (v := (2000 : Int32)) dX12_init_124 (by decide) ?_
  replace e := gd_some e
  obtain ⟨g116, e⟩ := e
  replace e := gd_some e
  obtain ⟨g117, e⟩ := e
  refine V_iast (pc := 127) dX12_init_127 (of_decide_eq_true g116) (ix_in g117) ?_
  replace e := ob_some e
  obtain ⟨h118, g119, e⟩ := e
  refine V_hp (Option.some.inj g119) ?_
  have k120 : kd h118 q1 = 13 := kd_eq (h := (setI (setI (setR h95 v0 22 (some q91)) q110 ((8 : Int32)).toNatClampNeg (1000 : Int32)) q114 ((9 : Int32)).toNatClampNeg (2000 : Int32))) (Option.some.inj g119) (kd_sI (kd_sI (kd_sR k97)))
  have k121 : kd h118 v0 = 11 := kd_eq (h := (setI (setI (setR h95 v0 22 (some q91)) q110 ((8 : Int32)).toNatClampNeg (1000 : Int32)) q114 ((9 : Int32)).toNatClampNeg (2000 : Int32))) (Option.some.inj g119) (kd_sI (kd_sI (kd_sR k98)))
  have k122 : kd h118 q6 = 13 := kd_eq (h := (setI (setI (setR h95 v0 22 (some q91)) q110 ((8 : Int32)).toNatClampNeg (1000 : Int32)) q114 ((9 : Int32)).toNatClampNeg (2000 : Int32))) (Option.some.inj g119) (kd_sI (kd_sI (kd_sR k99)))
  have k123 : kd h118 q15 = 13 := kd_eq (h := (setI (setI (setR h95 v0 22 (some q91)) q110 ((8 : Int32)).toNatClampNeg (1000 : Int32)) q114 ((9 : Int32)).toNatClampNeg (2000 : Int32))) (Option.some.inj g119) (kd_sI (kd_sI (kd_sR k100)))
  have k124 : kd h118 q19 = 12 := kd_eq (h := (setI (setI (setR h95 v0 22 (some q91)) q110 ((8 : Int32)).toNatClampNeg (1000 : Int32)) q114 ((9 : Int32)).toNatClampNeg (2000 : Int32))) (Option.some.inj g119) (kd_sI (kd_sI (kd_sR k101)))
  have k125 : kd h118 q30 = 13 := kd_eq (h := (setI (setI (setR h95 v0 22 (some q91)) q110 ((8 : Int32)).toNatClampNeg (1000 : Int32)) q114 ((9 : Int32)).toNatClampNeg (2000 : Int32))) (Option.some.inj g119) (kd_sI (kd_sI (kd_sR k102)))
  have k126 : kd h118 q34 = 13 := kd_eq (h := (setI (setI (setR h95 v0 22 (some q91)) q110 ((8 : Int32)).toNatClampNeg (1000 : Int32)) q114 ((9 : Int32)).toNatClampNeg (2000 : Int32))) (Option.some.inj g119) (kd_sI (kd_sI (kd_sR k103)))
  have k127 : kd h118 q47 = 13 := kd_eq (h := (setI (setI (setR h95 v0 22 (some q91)) q110 ((8 : Int32)).toNatClampNeg (1000 : Int32)) q114 ((9 : Int32)).toNatClampNeg (2000 : Int32))) (Option.some.inj g119) (kd_sI (kd_sI (kd_sR k104)))
  have k128 : kd h118 q51 = 13 := kd_eq (h := (setI (setI (setR h95 v0 22 (some q91)) q110 ((8 : Int32)).toNatClampNeg (1000 : Int32)) q114 ((9 : Int32)).toNatClampNeg (2000 : Int32))) (Option.some.inj g119) (kd_sI (kd_sI (kd_sR k105)))
  have k129 : kd h118 q66 = 13 := kd_eq (h := (setI (setI (setR h95 v0 22 (some q91)) q110 ((8 : Int32)).toNatClampNeg (1000 : Int32)) q114 ((9 : Int32)).toNatClampNeg (2000 : Int32))) (Option.some.inj g119) (kd_sI (kd_sI (kd_sR k106)))
  have k130 : kd h118 q70 = 14 := kd_eq (h := (setI (setI (setR h95 v0 22 (some q91)) q110 ((8 : Int32)).toNatClampNeg (1000 : Int32)) q114 ((9 : Int32)).toNatClampNeg (2000 : Int32))) (Option.some.inj g119) (kd_sI (kd_sI (kd_sR k107)))
  have k131 : kd h118 q87 = 13 := kd_eq (h := (setI (setI (setR h95 v0 22 (some q91)) q110 ((8 : Int32)).toNatClampNeg (1000 : Int32)) q114 ((9 : Int32)).toNatClampNeg (2000 : Int32))) (Option.some.inj g119) (kd_sI (kd_sI (kd_sR k108)))
  have k132 : kd h118 q91 = 13 := kd_eq (h := (setI (setI (setR h95 v0 22 (some q91)) q110 ((8 : Int32)).toNatClampNeg (1000 : Int32)) q114 ((9 : Int32)).toNatClampNeg (2000 : Int32))) (Option.some.inj g119) (kd_sI (kd_sI (kd_sR k109)))
  have k133 : kd h118 q110 = 13 := kd_eq (h := (setI (setI (setR h95 v0 22 (some q91)) q110 ((8 : Int32)).toNatClampNeg (1000 : Int32)) q114 ((9 : Int32)).toNatClampNeg (2000 : Int32))) (Option.some.inj g119) (kd_sI (kd_sI (of_decide_eq_true g112)))
  have k134 : kd h118 q114 = 13 := kd_eq (h := (setI (setI (setR h95 v0 22 (some q91)) q110 ((8 : Int32)).toNatClampNeg (1000 : Int32)) q114 ((9 : Int32)).toNatClampNeg (2000 : Int32))) (Option.some.inj g119) (kd_sI (of_decide_eq_true g116))
  refine V_aload_n (pc := 128) (i := 0) dX12_init_128 rfl rfl ?_
  replace e := ob_some e
  obtain ⟨q135, g136, e⟩ := e
  refine V_getR (pc := 129) (ci := 11) (k := 1) (b := q135) dX12_init_129 fl_X12_13 rfl k121 g136 ?_
  refine V_bipush (pc := 132) (v := (10 : Int32)) dX12_init_132 (by decide) ?_
  refine V_iconst (pc := 134) (v := (1 : Int32)) dX12_init_134 (by decide) ?_
  replace e := gd_some e
  obtain ⟨g137, e⟩ := e
  replace e := gd_some e
  obtain ⟨g138, e⟩ := e
  refine V_iast (pc := 135) dX12_init_135 (of_decide_eq_true g137) (ix_in g138) ?_
  cases e
  exact V_vret (pc := 136) dX12_init_136 hF
def F_X12_init (v0 : Nat) (h : Hp) : Option (Unit × Hp × Nat × Nat) := F_X12_init_b0 v0 h
theorem c_X12_init {l : Launch} (v0 : Nat) (h : Hp) {r : Unit} {hz : Hp} {c9 s9 : Nat} (e : F_X12_init v0 h = some (r, hz, c9, s9)) : Ct l yX12_init M_X12_init none 1 [.ref v0] h c9 s9 none hz :=
  Ct_of rfl rfl (fun _ => rfl) (Nat.le_of_ble_eq_true rfl) (fun x _ hF => V_pick [0] rfl (r_X12_init_b0 v0 h e hF))
theorem dX12_image_0 : decode cX12_image 0 = .ok (.aload_n 0, 1) := by decide +kernel
theorem dX12_image_1 : decode cX12_image 1 = .ok (.iconst 0, 1) := by decide +kernel
theorem dX12_image_2 : decode cX12_image 2 = .ok (.putfield 3, 3) := by decide +kernel
theorem dX12_image_5 : decode cX12_image 5 = .ok (.iconst 0, 1) := by decide +kernel
theorem dX12_image_6 : decode cX12_image 6 = .ok (.istore_n 1, 1) := by decide +kernel
theorem dX12_image_7 : decode cX12_image 7 = .ok (.iload_n 1, 1) := by decide +kernel
theorem dX12_image_8 : decode cX12_image 8 = .ok (.sipush 4232, 3) := by decide +kernel
theorem dX12_image_11 : decode cX12_image 11 = .ok (.if_icmp .ge 21, 3) := by decide +kernel
theorem dX12_image_14 : decode cX12_image 14 = .ok (.aload_n 0, 1) := by decide +kernel
theorem dX12_image_15 : decode cX12_image 15 = .ok (.getfield 17, 3) := by decide +kernel
theorem dX12_image_18 : decode cX12_image 18 = .ok (.iload_n 1, 1) := by decide +kernel
theorem dX12_image_19 : decode cX12_image 19 = .ok (.aload_n 0, 1) := by decide +kernel
theorem dX12_image_20 : decode cX12_image 20 = .ok (.getfield 13, 3) := by decide +kernel
theorem dX12_image_23 : decode cX12_image 23 = .ok (.iload_n 1, 1) := by decide +kernel
theorem dX12_image_24 : decode cX12_image 24 = .ok (.iaload, 1) := by decide +kernel
theorem dX12_image_25 : decode cX12_image 25 = .ok (.iastore, 1) := by decide +kernel
theorem dX12_image_26 : decode cX12_image 26 = .ok (.iinc 1 1, 3) := by decide +kernel
theorem dX12_image_29 : decode cX12_image 29 = .ok (.goto (-22), 3) := by decide +kernel
theorem dX12_image_32 : decode cX12_image 32 = .ok (.aload_n 0, 1) := by decide +kernel
theorem dX12_image_33 : decode cX12_image 33 = .ok (.iconst 1, 1) := by decide +kernel
theorem dX12_image_34 : decode cX12_image 34 = .ok (.putfield 56, 3) := by decide +kernel
theorem dX12_image_37 : decode cX12_image 37 = .ok (.return_, 1) := by decide +kernel
set_option maxRecDepth 100000 in
def F_X12_image_l7 (v0 : Nat) (v1 : Int32) (h : Hp) : Option ((Int32 × Hp) ⊕ Hp) :=
  (if (4232 : Int32) ≤ v1 then some (.inr h) else gd (decide (kd h v0 = 11)) <| ob (zR h v0 2) fun q3 => ob (zR h v0 1) fun q5 => gd (decide (kd h q5 = 13)) <| gd (ix v1 (zl h q5)) <| gd (decide (kd h q3 = 13)) <| gd (ix v1 (zl h q3)) <| some (.inl (v1 + (1 : Int32), setI h q3 (v1).toNatClampNeg (zI h q5 (v1).toNatClampNeg))))
set_option maxHeartbeats 4000000 in
set_option maxRecDepth 100000 in
theorem r_X12_image_l7 (v0 : Nat) (v1 : Int32) (h : Hp) {x : Cx} {o : ((Int32 × Hp) ⊕ Hp)} (e : F_X12_image_l7 v0 v1 h = some o) (kI : ∀ z, o = .inl z → V M_X12_image x 0 7 [(0, .ref v0), (1, .int z.1)] [] z.2 0 0) (kE32 : ∀ z : Hp, o = .inr z → V M_X12_image x 0 32 [(0, .ref v0)] [] z 0 0) : V M_X12_image x 0 7 [(0, .ref v0), (1, .int v1)] [] h 0 0 := by
  unfold F_X12_image_l7 at e
  refine V_iload_n (pc := 7) (i := 1) dX12_image_7 rfl rfl ?_
  refine V_sipush (pc := 8) (v := (4232 : Int32)) dX12_image_8 (by decide) ?_
  refine V_icmp_ge (pc := 11) (tgt := 32) dX12_image_11 (by decide) (fun c11 => ?_) (fun c11 => ?_)
  · rw [if_pos c11] at e
    cases e
    exact V_pick [0] rfl (kE32 h rfl)
  · rw [if_neg c11] at e
    refine V_pick [0, 1] rfl ?_
    refine V_aload_n (pc := 14) (i := 0) dX12_image_14 rfl rfl ?_
    obtain ⟨g2, e⟩ := gd_some e
    obtain ⟨q3, g4, e⟩ := ob_some e
    refine V_getR (pc := 15) (ci := 11) (k := 2) (b := q3) dX12_image_15 fl_X12_17 rfl (of_decide_eq_true g2) g4 ?_
    refine V_iload_n (pc := 18) (i := 1) dX12_image_18 rfl rfl ?_
    refine V_aload_n (pc := 19) (i := 0) dX12_image_19 rfl rfl ?_
    obtain ⟨q5, g6, e⟩ := ob_some e
    refine V_getR (pc := 20) (ci := 11) (k := 1) (b := q5) dX12_image_20 fl_X12_13 rfl (of_decide_eq_true g2) g6 ?_
    refine V_iload_n (pc := 23) (i := 1) dX12_image_23 rfl rfl ?_
    obtain ⟨g7, e⟩ := gd_some e
    obtain ⟨g8, e⟩ := gd_some e
    refine V_iald (pc := 24) dX12_image_24 (of_decide_eq_true g7) (ix_in g8) ?_
    obtain ⟨g9, e⟩ := gd_some e
    obtain ⟨g10, e⟩ := gd_some e
    refine V_iast (pc := 25) dX12_image_25 (of_decide_eq_true g9) (ix_in g10) ?_
    refine V_iinc (pc := 26) (i := 1) (u := v1 + (1 : Int32)) (lv' := [(1, .int (v1 + (1 : Int32))), (0, .ref v0)]) dX12_image_26 rfl rfl (by decide) rfl ?_
    refine V_goto (pc := 29) (tgt := 7) dX12_image_29 (by decide) ?_
    cases e
    exact V_pick [1, 0] rfl (kI (v1 + (1 : Int32), setI h q3 (v1).toNatClampNeg (zI h q5 (v1).toNatClampNeg)) rfl)
set_option maxRecDepth 100000 in
def F_X12_image_b0 (v0 : Nat) (h : Hp) : Option (Unit × Hp) :=
  gd (decide (kd h v0 = 11)) <| ob (iter (fun z : Int32 × Hp => F_X12_image_l7 v0 z.1 z.2) FU ((0 : Int32), setI h v0 0 (0 : Int32))) (fun h12 => gd (decide (kd h12 v0 = 11)) <| some ((), setI h12 v0 4 (1 : Int32)))
set_option maxHeartbeats 4000000 in
set_option maxRecDepth 100000 in
theorem r_X12_image_b0 (v0 : Nat) (h : Hp) {x : Cx} {r : Unit} {hz : Hp} (e : F_X12_image_b0 v0 h = some (r, hz)) (hF : Fin9 M_X12_image x none none hz) : V M_X12_image x 0 0 [(0, .ref v0)] [] h 0 0 := by
  unfold F_X12_image_b0 at e
  refine V_aload_n (pc := 0) (i := 0) dX12_image_0 rfl rfl ?_
  refine V_iconst (pc := 1) (v := (0 : Int32)) dX12_image_1 (by decide) ?_
  obtain ⟨g1, e⟩ := gd_some e
  refine V_putI (pc := 2) (ci := 11) (k := 0) dX12_image_2 fp_X12_3 rfl (of_decide_eq_true g1) ?_
  refine V_iconst (pc := 5) (v := (0 : Int32)) dX12_image_5 (by decide) ?_
  refine V_istore_n (pc := 6) (i := 1) (lv' := [(1, .int (0 : Int32)), (0, .ref v0)]) dX12_image_6 rfl (by decide) rfl ?_
  refine V_pick [1, 0] rfl ?_
  obtain ⟨y14, g15, e⟩ := ob_some e
  refine iter_V (P := fun z : Int32 × Hp => V M_X12_image x 0 7 [(0, .ref v0), (1, .int z.1)] [] z.2 0 0) (E := fun z : Hp => V M_X12_image x 0 32 [(0, .ref v0)] [] z 0 0) (fun z o e9 k1 k2 => r_X12_image_l7 v0 z.1 z.2 e9 (fun z hz9 => k1 z hz9) (fun z hz9 => k2 _ hz9)) _ _ _ g15 ?_
  clear g15
  obtain ⟨h12, rfl⟩ : ∃ q, q = y14 := ⟨_, rfl⟩
  replace e : (gd (decide (kd h12 v0 = 11)) <| some ((), setI h12 v0 4 (1 : Int32))) = some (r, hz) := e
  show V M_X12_image x 0 32 [(0, .ref v0)] [] h12 0 0
  refine V_aload_n (pc := 32) (i := 0) dX12_image_32 rfl rfl ?_
  refine V_iconst (pc := 33) (v := (1 : Int32)) dX12_image_33 (by decide) ?_
  obtain ⟨g13, e⟩ := gd_some e
  refine V_putZ (pc := 34) (ci := 11) (k := 4) dX12_image_34 fp_X12_56 rfl (of_decide_eq_true g13) (by decide) ?_
  cases e
  exact V_vret (pc := 37) dX12_image_37 hF
def F_X12_image (v0 : Nat) (h : Hp) : Option (Unit × Hp) := F_X12_image_b0 v0 h
theorem c_X12_image {l : Launch} (v0 : Nat) (h : Hp) {r : Unit} {hz : Hp} (e : F_X12_image v0 h = some (r, hz)) : Ct l yX12_image M_X12_image none 0 [.ref v0] h 0 0 none hz :=
  Ct_of rfl rfl (fun q => by cases q) (Nat.le_of_ble_eq_true rfl) (fun x _ hF => V_pick [0] rfl (r_X12_image_b0 v0 h e hF))
theorem dX12_back_0 : decode cX12_back 0 = .ok (.aload_n 0, 1) := by decide +kernel
theorem dX12_back_1 : decode cX12_back 1 = .ok (.iconst 0, 1) := by decide +kernel
theorem dX12_back_2 : decode cX12_back 2 = .ok (.putfield 3, 3) := by decide +kernel
theorem dX12_back_5 : decode cX12_back 5 = .ok (.aload_n 0, 1) := by decide +kernel
theorem dX12_back_6 : decode cX12_back 6 = .ok (.getfield 56, 3) := by decide +kernel
theorem dX12_back_9 : decode cX12_back 9 = .ok (.ifCond .ne 5, 3) := by decide +kernel
theorem dX12_back_12 : decode cX12_back 12 = .ok (.iconst 0, 1) := by decide +kernel
theorem dX12_back_13 : decode cX12_back 13 = .ok (.ireturn, 1) := by decide +kernel
theorem dX12_back_14 : decode cX12_back 14 = .ok (.iconst 0, 1) := by decide +kernel
theorem dX12_back_15 : decode cX12_back 15 = .ok (.istore_n 1, 1) := by decide +kernel
theorem dX12_back_16 : decode cX12_back 16 = .ok (.iload_n 1, 1) := by decide +kernel
theorem dX12_back_17 : decode cX12_back 17 = .ok (.sipush 4232, 3) := by decide +kernel
theorem dX12_back_20 : decode cX12_back 20 = .ok (.if_icmp .ge 21, 3) := by decide +kernel
theorem dX12_back_23 : decode cX12_back 23 = .ok (.aload_n 0, 1) := by decide +kernel
theorem dX12_back_24 : decode cX12_back 24 = .ok (.getfield 13, 3) := by decide +kernel
theorem dX12_back_27 : decode cX12_back 27 = .ok (.iload_n 1, 1) := by decide +kernel
theorem dX12_back_28 : decode cX12_back 28 = .ok (.aload_n 0, 1) := by decide +kernel
theorem dX12_back_29 : decode cX12_back 29 = .ok (.getfield 17, 3) := by decide +kernel
theorem dX12_back_32 : decode cX12_back 32 = .ok (.iload_n 1, 1) := by decide +kernel
theorem dX12_back_33 : decode cX12_back 33 = .ok (.iaload, 1) := by decide +kernel
theorem dX12_back_34 : decode cX12_back 34 = .ok (.iastore, 1) := by decide +kernel
theorem dX12_back_35 : decode cX12_back 35 = .ok (.iinc 1 1, 3) := by decide +kernel
theorem dX12_back_38 : decode cX12_back 38 = .ok (.goto (-22), 3) := by decide +kernel
theorem dX12_back_41 : decode cX12_back 41 = .ok (.iconst 1, 1) := by decide +kernel
theorem dX12_back_42 : decode cX12_back 42 = .ok (.ireturn, 1) := by decide +kernel
set_option maxRecDepth 100000 in
def F_X12_back_l16 (v0 : Nat) (v1 : Int32) (h : Hp) : Option ((Int32 × Hp) ⊕ Hp) :=
  (if (4232 : Int32) ≤ v1 then some (.inr h) else gd (decide (kd h v0 = 11)) <| ob (zR h v0 1) fun q3 => ob (zR h v0 2) fun q5 => gd (decide (kd h q5 = 13)) <| gd (ix v1 (zl h q5)) <| gd (decide (kd h q3 = 13)) <| gd (ix v1 (zl h q3)) <| some (.inl (v1 + (1 : Int32), setI h q3 (v1).toNatClampNeg (zI h q5 (v1).toNatClampNeg))))
set_option maxHeartbeats 4000000 in
set_option maxRecDepth 100000 in
theorem r_X12_back_l16 (v0 : Nat) (v1 : Int32) (h : Hp) {x : Cx} {o : ((Int32 × Hp) ⊕ Hp)} (e : F_X12_back_l16 v0 v1 h = some o) (kI : ∀ z, o = .inl z → V M_X12_back x 0 16 [(0, .ref v0), (1, .int z.1)] [] z.2 0 0) (kE41 : ∀ z : Hp, o = .inr z → V M_X12_back x 0 41 [] [] z 0 0) : V M_X12_back x 0 16 [(0, .ref v0), (1, .int v1)] [] h 0 0 := by
  unfold F_X12_back_l16 at e
  refine V_iload_n (pc := 16) (i := 1) dX12_back_16 rfl rfl ?_
  refine V_sipush (pc := 17) (v := (4232 : Int32)) dX12_back_17 (by decide) ?_
  refine V_icmp_ge (pc := 20) (tgt := 41) dX12_back_20 (by decide) (fun c11 => ?_) (fun c11 => ?_)
  · rw [if_pos c11] at e
    cases e
    exact V_pick [] rfl (kE41 h rfl)
  · rw [if_neg c11] at e
    refine V_pick [0, 1] rfl ?_
    refine V_aload_n (pc := 23) (i := 0) dX12_back_23 rfl rfl ?_
    obtain ⟨g2, e⟩ := gd_some e
    obtain ⟨q3, g4, e⟩ := ob_some e
    refine V_getR (pc := 24) (ci := 11) (k := 1) (b := q3) dX12_back_24 fl_X12_13 rfl (of_decide_eq_true g2) g4 ?_
    refine V_iload_n (pc := 27) (i := 1) dX12_back_27 rfl rfl ?_
    refine V_aload_n (pc := 28) (i := 0) dX12_back_28 rfl rfl ?_
    obtain ⟨q5, g6, e⟩ := ob_some e
    refine V_getR (pc := 29) (ci := 11) (k := 2) (b := q5) dX12_back_29 fl_X12_17 rfl (of_decide_eq_true g2) g6 ?_
    refine V_iload_n (pc := 32) (i := 1) dX12_back_32 rfl rfl ?_
    obtain ⟨g7, e⟩ := gd_some e
    obtain ⟨g8, e⟩ := gd_some e
    refine V_iald (pc := 33) dX12_back_33 (of_decide_eq_true g7) (ix_in g8) ?_
    obtain ⟨g9, e⟩ := gd_some e
    obtain ⟨g10, e⟩ := gd_some e
    refine V_iast (pc := 34) dX12_back_34 (of_decide_eq_true g9) (ix_in g10) ?_
    refine V_iinc (pc := 35) (i := 1) (u := v1 + (1 : Int32)) (lv' := [(1, .int (v1 + (1 : Int32))), (0, .ref v0)]) dX12_back_35 rfl rfl (by decide) rfl ?_
    refine V_goto (pc := 38) (tgt := 16) dX12_back_38 (by decide) ?_
    cases e
    exact V_pick [1, 0] rfl (kI (v1 + (1 : Int32), setI h q3 (v1).toNatClampNeg (zI h q5 (v1).toNatClampNeg)) rfl)
set_option maxRecDepth 100000 in
def F_X12_back_b0 (v0 : Nat) (h : Hp) : Option (Int32 × Hp) :=
  gd (decide (kd h v0 = 11)) <| (if (zI (setI h v0 0 (0 : Int32)) v0 4) = 0 then some ((0 : Int32), setI h v0 0 (0 : Int32)) else ob (iter (fun z : Int32 × Hp => F_X12_back_l16 v0 z.1 z.2) FU ((0 : Int32), setI h v0 0 (0 : Int32))) (fun h12 => some ((1 : Int32), h12)))
set_option maxHeartbeats 4000000 in
set_option maxRecDepth 100000 in
theorem r_X12_back_b0 (v0 : Nat) (h : Hp) {x : Cx} {r : Int32} {hz : Hp} (e : F_X12_back_b0 v0 h = some (r, hz)) (hF : Fin9 M_X12_back x (some .boolean) (some (.int r)) hz) : V M_X12_back x 0 0 [(0, .ref v0)] [] h 0 0 := by
  unfold F_X12_back_b0 at e
  refine V_aload_n (pc := 0) (i := 0) dX12_back_0 rfl rfl ?_
  refine V_iconst (pc := 1) (v := (0 : Int32)) dX12_back_1 (by decide) ?_
  obtain ⟨g1, e⟩ := gd_some e
  refine V_putI (pc := 2) (ci := 11) (k := 0) dX12_back_2 fp_X12_3 rfl (of_decide_eq_true g1) ?_
  refine V_aload_n (pc := 5) (i := 0) dX12_back_5 rfl rfl ?_
  refine V_getI (pc := 6) (ci := 11) (k := 4) dX12_back_6 fl_X12_56 rfl (kd_sI (of_decide_eq_true g1)) ?_
  refine V_if_ne (pc := 9) (tgt := 14) dX12_back_9 (by decide) (fun c15 => ?_) (fun c15 => ?_)
  · rw [if_neg c15] at e
    refine V_pick [0] rfl ?_
    refine V_iconst (pc := 14) (v := (0 : Int32)) dX12_back_14 (by decide) ?_
    refine V_istore_n (pc := 15) (i := 1) (lv' := [(1, .int (0 : Int32)), (0, .ref v0)]) dX12_back_15 rfl (by decide) rfl ?_
    refine V_pick [1, 0] rfl ?_
    obtain ⟨y13, g14, e⟩ := ob_some e
    refine iter_V (P := fun z : Int32 × Hp => V M_X12_back x 0 16 [(0, .ref v0), (1, .int z.1)] [] z.2 0 0) (E := fun z : Hp => V M_X12_back x 0 41 [] [] z 0 0) (fun z o e9 k1 k2 => r_X12_back_l16 v0 z.1 z.2 e9 (fun z hz9 => k1 z hz9) (fun z hz9 => k2 _ hz9)) _ _ _ g14 ?_
    clear g14
    obtain ⟨h12, rfl⟩ : ∃ q, q = y13 := ⟨_, rfl⟩
    replace e : (some ((1 : Int32), h12)) = some (r, hz) := e
    show V M_X12_back x 0 41 [] [] h12 0 0
    refine V_iconst (pc := 41) (v := (1 : Int32)) dX12_back_41 (by decide) ?_
    cases e
    exact V_zret (pc := 42) dX12_back_42 rfl hF
  · rw [if_pos c15] at e
    refine V_pick [] rfl ?_
    refine V_iconst (pc := 12) (v := (0 : Int32)) dX12_back_12 (by decide) ?_
    cases e
    exact V_zret (pc := 13) dX12_back_13 rfl hF
def F_X12_back (v0 : Nat) (h : Hp) : Option (Int32 × Hp) := F_X12_back_b0 v0 h
theorem c_X12_back {l : Launch} (v0 : Nat) (h : Hp) {r : Int32} {hz : Hp} (e : F_X12_back v0 h = some (r, hz)) : Ct l yX12_back M_X12_back (some .boolean) 0 [.ref v0] h 0 0 (some (.int r)) hz :=
  Ct_of rfl rfl (fun q => by cases q) (Nat.le_of_ble_eq_true rfl) (fun x _ hF => V_pick [0] rfl (r_X12_back_b0 v0 h e hF))
theorem dX12_rooms_0 : decode cX12_rooms 0 = .ok (.aload_n 0, 1) := by decide +kernel
theorem dX12_rooms_1 : decode cX12_rooms 1 = .ok (.getfield 13, 3) := by decide +kernel
theorem dX12_rooms_4 : decode cX12_rooms 4 = .ok (.iconst 0, 1) := by decide +kernel
theorem dX12_rooms_5 : decode cX12_rooms 5 = .ok (.iaload, 1) := by decide +kernel
theorem dX12_rooms_6 : decode cX12_rooms 6 = .ok (.ireturn, 1) := by decide +kernel
set_option maxRecDepth 100000 in
def F_X12_rooms_b0 (v0 : Nat) (h : Hp) : Option Int32 :=
  gd (decide (kd h v0 = 11)) <| ob (zR h v0 1) fun q2 => gd (decide (kd h q2 = 13)) <| gd (ix (0 : Int32) (zl h q2)) <| some (zI h q2 ((0 : Int32)).toNatClampNeg)
set_option maxHeartbeats 4000000 in
set_option maxRecDepth 100000 in
theorem r_X12_rooms_b0 (v0 : Nat) (h : Hp) {x : Cx} {r : Int32} (e : F_X12_rooms_b0 v0 h = some r) (hF : Fin9 M_X12_rooms x (some .int) (some (.int r)) h) : V M_X12_rooms x 0 0 [(0, .ref v0)] [] h 0 0 := by
  unfold F_X12_rooms_b0 at e
  refine V_aload_n (pc := 0) (i := 0) dX12_rooms_0 rfl rfl ?_
  obtain ⟨g1, e⟩ := gd_some e
  obtain ⟨q2, g3, e⟩ := ob_some e
  refine V_getR (pc := 1) (ci := 11) (k := 1) (b := q2) dX12_rooms_1 fl_X12_13 rfl (of_decide_eq_true g1) g3 ?_
  refine V_iconst (pc := 4) (v := (0 : Int32)) dX12_rooms_4 (by decide) ?_
  obtain ⟨g4, e⟩ := gd_some e
  obtain ⟨g5, e⟩ := gd_some e
  refine V_iald (pc := 5) dX12_rooms_5 (of_decide_eq_true g4) (ix_in g5) ?_
  cases e
  exact V_iret (pc := 6) dX12_rooms_6 hF
def F_X12_rooms (v0 : Nat) (h : Hp) : Option Int32 := F_X12_rooms_b0 v0 h
theorem c_X12_rooms {l : Launch} (v0 : Nat) (h : Hp) {r : Int32} (e : F_X12_rooms v0 h = some r) : Ct l yX12_rooms M_X12_rooms (some .int) 0 [.ref v0] h 0 0 (some (.int r)) h :=
  Ct_of rfl rfl (fun q => by cases q) (Nat.le_of_ble_eq_true rfl) (fun x _ hF => V_pick [0] rfl (r_X12_rooms_b0 v0 h e hF))
theorem dX12_guests_0 : decode cX12_guests 0 = .ok (.aload_n 0, 1) := by decide +kernel
theorem dX12_guests_1 : decode cX12_guests 1 = .ok (.getfield 13, 3) := by decide +kernel
theorem dX12_guests_4 : decode cX12_guests 4 = .ok (.iconst 1, 1) := by decide +kernel
theorem dX12_guests_5 : decode cX12_guests 5 = .ok (.iaload, 1) := by decide +kernel
theorem dX12_guests_6 : decode cX12_guests 6 = .ok (.ireturn, 1) := by decide +kernel
set_option maxRecDepth 100000 in
def F_X12_guests_b0 (v0 : Nat) (h : Hp) : Option Int32 :=
  gd (decide (kd h v0 = 11)) <| ob (zR h v0 1) fun q2 => gd (decide (kd h q2 = 13)) <| gd (ix (1 : Int32) (zl h q2)) <| some (zI h q2 ((1 : Int32)).toNatClampNeg)
set_option maxHeartbeats 4000000 in
set_option maxRecDepth 100000 in
theorem r_X12_guests_b0 (v0 : Nat) (h : Hp) {x : Cx} {r : Int32} (e : F_X12_guests_b0 v0 h = some r) (hF : Fin9 M_X12_guests x (some .int) (some (.int r)) h) : V M_X12_guests x 0 0 [(0, .ref v0)] [] h 0 0 := by
  unfold F_X12_guests_b0 at e
  refine V_aload_n (pc := 0) (i := 0) dX12_guests_0 rfl rfl ?_
  obtain ⟨g1, e⟩ := gd_some e
  obtain ⟨q2, g3, e⟩ := ob_some e
  refine V_getR (pc := 1) (ci := 11) (k := 1) (b := q2) dX12_guests_1 fl_X12_13 rfl (of_decide_eq_true g1) g3 ?_
  refine V_iconst (pc := 4) (v := (1 : Int32)) dX12_guests_4 (by decide) ?_
  obtain ⟨g4, e⟩ := gd_some e
  obtain ⟨g5, e⟩ := gd_some e
  refine V_iald (pc := 5) dX12_guests_5 (of_decide_eq_true g4) (ix_in g5) ?_
  cases e
  exact V_iret (pc := 6) dX12_guests_6 hF
def F_X12_guests (v0 : Nat) (h : Hp) : Option Int32 := F_X12_guests_b0 v0 h
theorem c_X12_guests {l : Launch} (v0 : Nat) (h : Hp) {r : Int32} (e : F_X12_guests v0 h = some r) : Ct l yX12_guests M_X12_guests (some .int) 0 [.ref v0] h 0 0 (some (.int r)) h :=
  Ct_of rfl rfl (fun q => by cases q) (Nat.le_of_ble_eq_true rfl) (fun x _ hF => V_pick [0] rfl (r_X12_guests_b0 v0 h e hF))
theorem dX12_trunks_0 : decode cX12_trunks 0 = .ok (.aload_n 0, 1) := by decide +kernel
theorem dX12_trunks_1 : decode cX12_trunks 1 = .ok (.getfield 13, 3) := by decide +kernel
theorem dX12_trunks_4 : decode cX12_trunks 4 = .ok (.iconst 2, 1) := by decide +kernel
theorem dX12_trunks_5 : decode cX12_trunks 5 = .ok (.iaload, 1) := by decide +kernel
theorem dX12_trunks_6 : decode cX12_trunks 6 = .ok (.ireturn, 1) := by decide +kernel
set_option maxRecDepth 100000 in
def F_X12_trunks_b0 (v0 : Nat) (h : Hp) : Option Int32 :=
  gd (decide (kd h v0 = 11)) <| ob (zR h v0 1) fun q2 => gd (decide (kd h q2 = 13)) <| gd (ix (2 : Int32) (zl h q2)) <| some (zI h q2 ((2 : Int32)).toNatClampNeg)
set_option maxHeartbeats 4000000 in
set_option maxRecDepth 100000 in
theorem r_X12_trunks_b0 (v0 : Nat) (h : Hp) {x : Cx} {r : Int32} (e : F_X12_trunks_b0 v0 h = some r) (hF : Fin9 M_X12_trunks x (some .int) (some (.int r)) h) : V M_X12_trunks x 0 0 [(0, .ref v0)] [] h 0 0 := by
  unfold F_X12_trunks_b0 at e
  refine V_aload_n (pc := 0) (i := 0) dX12_trunks_0 rfl rfl ?_
  obtain ⟨g1, e⟩ := gd_some e
  obtain ⟨q2, g3, e⟩ := ob_some e
  refine V_getR (pc := 1) (ci := 11) (k := 1) (b := q2) dX12_trunks_1 fl_X12_13 rfl (of_decide_eq_true g1) g3 ?_
  refine V_iconst (pc := 4) (v := (2 : Int32)) dX12_trunks_4 (by decide) ?_
  obtain ⟨g4, e⟩ := gd_some e
  obtain ⟨g5, e⟩ := gd_some e
  refine V_iald (pc := 5) dX12_trunks_5 (of_decide_eq_true g4) (ix_in g5) ?_
  cases e
  exact V_iret (pc := 6) dX12_trunks_6 hF
def F_X12_trunks (v0 : Nat) (h : Hp) : Option Int32 := F_X12_trunks_b0 v0 h
theorem c_X12_trunks {l : Launch} (v0 : Nat) (h : Hp) {r : Int32} (e : F_X12_trunks v0 h = some r) : Ct l yX12_trunks M_X12_trunks (some .int) 0 [.ref v0] h 0 0 (some (.int r)) h :=
  Ct_of rfl rfl (fun q => by cases q) (Nat.le_of_ble_eq_true rfl) (fun x _ hF => V_pick [0] rfl (r_X12_trunks_b0 v0 h e hF))
theorem dX12_ofRoom_0 : decode cX12_ofRoom 0 = .ok (.aload_n 0, 1) := by decide +kernel
theorem dX12_ofRoom_1 : decode cX12_ofRoom 1 = .ok (.getfield 13, 3) := by decide +kernel
theorem dX12_ofRoom_4 : decode cX12_ofRoom 4 = .ok (.bipush 11, 2) := by decide +kernel
theorem dX12_ofRoom_6 : decode cX12_ofRoom 6 = .ok (.iconst 4, 1) := by decide +kernel
theorem dX12_ofRoom_7 : decode cX12_ofRoom 7 = .ok (.iload_n 1, 1) := by decide +kernel
theorem dX12_ofRoom_8 : decode cX12_ofRoom 8 = .ok (.imul, 1) := by decide +kernel
theorem dX12_ofRoom_9 : decode cX12_ofRoom 9 = .ok (.iadd, 1) := by decide +kernel
theorem dX12_ofRoom_10 : decode cX12_ofRoom 10 = .ok (.iload_n 2, 1) := by decide +kernel
theorem dX12_ofRoom_11 : decode cX12_ofRoom 11 = .ok (.iadd, 1) := by decide +kernel
theorem dX12_ofRoom_12 : decode cX12_ofRoom 12 = .ok (.iaload, 1) := by decide +kernel
theorem dX12_ofRoom_13 : decode cX12_ofRoom 13 = .ok (.ireturn, 1) := by decide +kernel
set_option maxRecDepth 100000 in
def F_X12_ofRoom_b0 (v0 : Nat) (v1 : Int32) (v2 : Int32) (h : Hp) : Option Int32 :=
  gd (decide (kd h v0 = 11)) <| ob (zR h v0 1) fun q2 => gd (decide (kd h q2 = 13)) <| gd (ix (((11 : Int32) + ((4 : Int32) * v1)) + v2) (zl h q2)) <| some (zI h q2 (((11 : Int32) + ((4 : Int32) * v1)) + v2).toNatClampNeg)
set_option maxHeartbeats 4000000 in
set_option maxRecDepth 100000 in
theorem r_X12_ofRoom_b0 (v0 : Nat) (v1 : Int32) (v2 : Int32) (h : Hp) {x : Cx} {r : Int32} (e : F_X12_ofRoom_b0 v0 v1 v2 h = some r) (hF : Fin9 M_X12_ofRoom x (some .int) (some (.int r)) h) : V M_X12_ofRoom x 0 0 [(0, .ref v0), (1, .int v1), (2, .int v2)] [] h 0 0 := by
  unfold F_X12_ofRoom_b0 at e
  refine V_aload_n (pc := 0) (i := 0) dX12_ofRoom_0 rfl rfl ?_
  obtain ⟨g1, e⟩ := gd_some e
  obtain ⟨q2, g3, e⟩ := ob_some e
  refine V_getR (pc := 1) (ci := 11) (k := 1) (b := q2) dX12_ofRoom_1 fl_X12_13 rfl (of_decide_eq_true g1) g3 ?_
  refine V_bipush (pc := 4) (v := (11 : Int32)) dX12_ofRoom_4 (by decide) ?_
  refine V_iconst (pc := 6) (v := (4 : Int32)) dX12_ofRoom_6 (by decide) ?_
  refine V_iload_n (pc := 7) (i := 1) dX12_ofRoom_7 rfl rfl ?_
  refine V_imul (pc := 8) dX12_ofRoom_8 ?_
  refine V_iadd (pc := 9) dX12_ofRoom_9 ?_
  refine V_iload_n (pc := 10) (i := 2) dX12_ofRoom_10 rfl rfl ?_
  refine V_iadd (pc := 11) dX12_ofRoom_11 ?_
  obtain ⟨g4, e⟩ := gd_some e
  obtain ⟨g5, e⟩ := gd_some e
  refine V_iald (pc := 12) dX12_ofRoom_12 (of_decide_eq_true g4) (ix_in g5) ?_
  cases e
  exact V_iret (pc := 13) dX12_ofRoom_13 hF
def F_X12_ofRoom (v0 : Nat) (v1 : Int32) (v2 : Int32) (h : Hp) : Option Int32 := F_X12_ofRoom_b0 v0 v1 v2 h
theorem c_X12_ofRoom {l : Launch} (v0 : Nat) (v1 : Int32) (v2 : Int32) (h : Hp) {r : Int32} (e : F_X12_ofRoom v0 v1 v2 h = some r) : Ct l yX12_ofRoom M_X12_ofRoom (some .int) 0 [.ref v0, .int v1, .int v2] h 0 0 (some (.int r)) h :=
  Ct_of rfl rfl (fun q => by cases q) (Nat.le_of_ble_eq_true rfl) (fun x _ hF => V_pick [0, 1, 2] rfl (r_X12_ofRoom_b0 v0 v1 v2 h e hF))
theorem dX12_weightOf_0 : decode cX12_weightOf 0 = .ok (.aload_n 0, 1) := by decide +kernel
theorem dX12_weightOf_1 : decode cX12_weightOf 1 = .ok (.getfield 13, 3) := by decide +kernel
theorem dX12_weightOf_4 : decode cX12_weightOf 4 = .ok (.bipush 43, 2) := by decide +kernel
theorem dX12_weightOf_6 : decode cX12_weightOf 6 = .ok (.iconst 2, 1) := by decide +kernel
theorem dX12_weightOf_7 : decode cX12_weightOf 7 = .ok (.iload_n 1, 1) := by decide +kernel
theorem dX12_weightOf_8 : decode cX12_weightOf 8 = .ok (.imul, 1) := by decide +kernel
theorem dX12_weightOf_9 : decode cX12_weightOf 9 = .ok (.iadd, 1) := by decide +kernel
theorem dX12_weightOf_10 : decode cX12_weightOf 10 = .ok (.iaload, 1) := by decide +kernel
theorem dX12_weightOf_11 : decode cX12_weightOf 11 = .ok (.ireturn, 1) := by decide +kernel
set_option maxRecDepth 100000 in
def F_X12_weightOf_b0 (v0 : Nat) (v1 : Int32) (h : Hp) : Option Int32 :=
  gd (decide (kd h v0 = 11)) <| ob (zR h v0 1) fun q2 => gd (decide (kd h q2 = 13)) <| gd (ix ((43 : Int32) + ((2 : Int32) * v1)) (zl h q2)) <| some (zI h q2 ((43 : Int32) + ((2 : Int32) * v1)).toNatClampNeg)
set_option maxHeartbeats 4000000 in
set_option maxRecDepth 100000 in
theorem r_X12_weightOf_b0 (v0 : Nat) (v1 : Int32) (h : Hp) {x : Cx} {r : Int32} (e : F_X12_weightOf_b0 v0 v1 h = some r) (hF : Fin9 M_X12_weightOf x (some .int) (some (.int r)) h) : V M_X12_weightOf x 0 0 [(0, .ref v0), (1, .int v1)] [] h 0 0 := by
  unfold F_X12_weightOf_b0 at e
  refine V_aload_n (pc := 0) (i := 0) dX12_weightOf_0 rfl rfl ?_
  obtain ⟨g1, e⟩ := gd_some e
  obtain ⟨q2, g3, e⟩ := ob_some e
  refine V_getR (pc := 1) (ci := 11) (k := 1) (b := q2) dX12_weightOf_1 fl_X12_13 rfl (of_decide_eq_true g1) g3 ?_
  refine V_bipush (pc := 4) (v := (43 : Int32)) dX12_weightOf_4 (by decide) ?_
  refine V_iconst (pc := 6) (v := (2 : Int32)) dX12_weightOf_6 (by decide) ?_
  refine V_iload_n (pc := 7) (i := 1) dX12_weightOf_7 rfl rfl ?_
  refine V_imul (pc := 8) dX12_weightOf_8 ?_
  refine V_iadd (pc := 9) dX12_weightOf_9 ?_
  obtain ⟨g4, e⟩ := gd_some e
  obtain ⟨g5, e⟩ := gd_some e
  refine V_iald (pc := 10) dX12_weightOf_10 (of_decide_eq_true g4) (ix_in g5) ?_
  cases e
  exact V_iret (pc := 11) dX12_weightOf_11 hF
def F_X12_weightOf (v0 : Nat) (v1 : Int32) (h : Hp) : Option Int32 := F_X12_weightOf_b0 v0 v1 h
theorem c_X12_weightOf {l : Launch} (v0 : Nat) (v1 : Int32) (h : Hp) {r : Int32} (e : F_X12_weightOf v0 v1 h = some r) : Ct l yX12_weightOf M_X12_weightOf (some .int) 0 [.ref v0, .int v1] h 0 0 (some (.int r)) h :=
  Ct_of rfl rfl (fun q => by cases q) (Nat.le_of_ble_eq_true rfl) (fun x _ hF => V_pick [0, 1] rfl (r_X12_weightOf_b0 v0 v1 h e hF))
theorem dX12_roomOf_0 : decode cX12_roomOf 0 = .ok (.aload_n 0, 1) := by decide +kernel
theorem dX12_roomOf_1 : decode cX12_roomOf 1 = .ok (.getfield 13, 3) := by decide +kernel
theorem dX12_roomOf_4 : decode cX12_roomOf 4 = .ok (.bipush 43, 2) := by decide +kernel
theorem dX12_roomOf_6 : decode cX12_roomOf 6 = .ok (.iconst 2, 1) := by decide +kernel
theorem dX12_roomOf_7 : decode cX12_roomOf 7 = .ok (.iload_n 1, 1) := by decide +kernel
theorem dX12_roomOf_8 : decode cX12_roomOf 8 = .ok (.imul, 1) := by decide +kernel
theorem dX12_roomOf_9 : decode cX12_roomOf 9 = .ok (.iadd, 1) := by decide +kernel
theorem dX12_roomOf_10 : decode cX12_roomOf 10 = .ok (.iconst 1, 1) := by decide +kernel
theorem dX12_roomOf_11 : decode cX12_roomOf 11 = .ok (.iadd, 1) := by decide +kernel
theorem dX12_roomOf_12 : decode cX12_roomOf 12 = .ok (.iaload, 1) := by decide +kernel
theorem dX12_roomOf_13 : decode cX12_roomOf 13 = .ok (.ireturn, 1) := by decide +kernel
set_option maxRecDepth 100000 in
def F_X12_roomOf_b0 (v0 : Nat) (v1 : Int32) (h : Hp) : Option Int32 :=
  gd (decide (kd h v0 = 11)) <| ob (zR h v0 1) fun q2 => gd (decide (kd h q2 = 13)) <| gd (ix (((43 : Int32) + ((2 : Int32) * v1)) + (1 : Int32)) (zl h q2)) <| some (zI h q2 (((43 : Int32) + ((2 : Int32) * v1)) + (1 : Int32)).toNatClampNeg)
set_option maxHeartbeats 4000000 in
set_option maxRecDepth 100000 in
theorem r_X12_roomOf_b0 (v0 : Nat) (v1 : Int32) (h : Hp) {x : Cx} {r : Int32} (e : F_X12_roomOf_b0 v0 v1 h = some r) (hF : Fin9 M_X12_roomOf x (some .int) (some (.int r)) h) : V M_X12_roomOf x 0 0 [(0, .ref v0), (1, .int v1)] [] h 0 0 := by
  unfold F_X12_roomOf_b0 at e
  refine V_aload_n (pc := 0) (i := 0) dX12_roomOf_0 rfl rfl ?_
  obtain ⟨g1, e⟩ := gd_some e
  obtain ⟨q2, g3, e⟩ := ob_some e
  refine V_getR (pc := 1) (ci := 11) (k := 1) (b := q2) dX12_roomOf_1 fl_X12_13 rfl (of_decide_eq_true g1) g3 ?_
  refine V_bipush (pc := 4) (v := (43 : Int32)) dX12_roomOf_4 (by decide) ?_
  refine V_iconst (pc := 6) (v := (2 : Int32)) dX12_roomOf_6 (by decide) ?_
  refine V_iload_n (pc := 7) (i := 1) dX12_roomOf_7 rfl rfl ?_
  refine V_imul (pc := 8) dX12_roomOf_8 ?_
  refine V_iadd (pc := 9) dX12_roomOf_9 ?_
  refine V_iconst (pc := 10) (v := (1 : Int32)) dX12_roomOf_10 (by decide) ?_
  refine V_iadd (pc := 11) dX12_roomOf_11 ?_
  obtain ⟨g4, e⟩ := gd_some e
  obtain ⟨g5, e⟩ := gd_some e
  refine V_iald (pc := 12) dX12_roomOf_12 (of_decide_eq_true g4) (ix_in g5) ?_
  cases e
  exact V_iret (pc := 13) dX12_roomOf_13 hF
def F_X12_roomOf (v0 : Nat) (v1 : Int32) (h : Hp) : Option Int32 := F_X12_roomOf_b0 v0 v1 h
theorem c_X12_roomOf {l : Launch} (v0 : Nat) (v1 : Int32) (h : Hp) {r : Int32} (e : F_X12_roomOf v0 v1 h = some r) : Ct l yX12_roomOf M_X12_roomOf (some .int) 0 [.ref v0, .int v1] h 0 0 (some (.int r)) h :=
  Ct_of rfl rfl (fun q => by cases q) (Nat.le_of_ble_eq_true rfl) (fun x _ hF => V_pick [0, 1] rfl (r_X12_roomOf_b0 v0 v1 h e hF))
theorem dX12_ofTrunk_0 : decode cX12_ofTrunk 0 = .ok (.aload_n 0, 1) := by decide +kernel
theorem dX12_ofTrunk_1 : decode cX12_ofTrunk 1 = .ok (.getfield 13, 3) := by decide +kernel
theorem dX12_ofTrunk_4 : decode cX12_ofTrunk 4 = .ok (.bipush 53, 2) := by decide +kernel
theorem dX12_ofTrunk_6 : decode cX12_ofTrunk 6 = .ok (.iconst 3, 1) := by decide +kernel
theorem dX12_ofTrunk_7 : decode cX12_ofTrunk 7 = .ok (.iload_n 1, 1) := by decide +kernel
theorem dX12_ofTrunk_8 : decode cX12_ofTrunk 8 = .ok (.imul, 1) := by decide +kernel
theorem dX12_ofTrunk_9 : decode cX12_ofTrunk 9 = .ok (.iadd, 1) := by decide +kernel
theorem dX12_ofTrunk_10 : decode cX12_ofTrunk 10 = .ok (.iload_n 2, 1) := by decide +kernel
theorem dX12_ofTrunk_11 : decode cX12_ofTrunk 11 = .ok (.iadd, 1) := by decide +kernel
theorem dX12_ofTrunk_12 : decode cX12_ofTrunk 12 = .ok (.iaload, 1) := by decide +kernel
theorem dX12_ofTrunk_13 : decode cX12_ofTrunk 13 = .ok (.ireturn, 1) := by decide +kernel
set_option maxRecDepth 100000 in
def F_X12_ofTrunk_b0 (v0 : Nat) (v1 : Int32) (v2 : Int32) (h : Hp) : Option Int32 :=
  gd (decide (kd h v0 = 11)) <| ob (zR h v0 1) fun q2 => gd (decide (kd h q2 = 13)) <| gd (ix (((53 : Int32) + ((3 : Int32) * v1)) + v2) (zl h q2)) <| some (zI h q2 (((53 : Int32) + ((3 : Int32) * v1)) + v2).toNatClampNeg)
set_option maxHeartbeats 4000000 in
set_option maxRecDepth 100000 in
theorem r_X12_ofTrunk_b0 (v0 : Nat) (v1 : Int32) (v2 : Int32) (h : Hp) {x : Cx} {r : Int32} (e : F_X12_ofTrunk_b0 v0 v1 v2 h = some r) (hF : Fin9 M_X12_ofTrunk x (some .int) (some (.int r)) h) : V M_X12_ofTrunk x 0 0 [(0, .ref v0), (1, .int v1), (2, .int v2)] [] h 0 0 := by
  unfold F_X12_ofTrunk_b0 at e
  refine V_aload_n (pc := 0) (i := 0) dX12_ofTrunk_0 rfl rfl ?_
  obtain ⟨g1, e⟩ := gd_some e
  obtain ⟨q2, g3, e⟩ := ob_some e
  refine V_getR (pc := 1) (ci := 11) (k := 1) (b := q2) dX12_ofTrunk_1 fl_X12_13 rfl (of_decide_eq_true g1) g3 ?_
  refine V_bipush (pc := 4) (v := (53 : Int32)) dX12_ofTrunk_4 (by decide) ?_
  refine V_iconst (pc := 6) (v := (3 : Int32)) dX12_ofTrunk_6 (by decide) ?_
  refine V_iload_n (pc := 7) (i := 1) dX12_ofTrunk_7 rfl rfl ?_
  refine V_imul (pc := 8) dX12_ofTrunk_8 ?_
  refine V_iadd (pc := 9) dX12_ofTrunk_9 ?_
  refine V_iload_n (pc := 10) (i := 2) dX12_ofTrunk_10 rfl rfl ?_
  refine V_iadd (pc := 11) dX12_ofTrunk_11 ?_
  obtain ⟨g4, e⟩ := gd_some e
  obtain ⟨g5, e⟩ := gd_some e
  refine V_iald (pc := 12) dX12_ofTrunk_12 (of_decide_eq_true g4) (ix_in g5) ?_
  cases e
  exact V_iret (pc := 13) dX12_ofTrunk_13 hF
def F_X12_ofTrunk (v0 : Nat) (v1 : Int32) (v2 : Int32) (h : Hp) : Option Int32 := F_X12_ofTrunk_b0 v0 v1 v2 h
theorem c_X12_ofTrunk {l : Launch} (v0 : Nat) (v1 : Int32) (v2 : Int32) (h : Hp) {r : Int32} (e : F_X12_ofTrunk v0 v1 v2 h = some r) : Ct l yX12_ofTrunk M_X12_ofTrunk (some .int) 0 [.ref v0, .int v1, .int v2] h 0 0 (some (.int r)) h :=
  Ct_of rfl rfl (fun q => by cases q) (Nat.le_of_ble_eq_true rfl) (fun x _ hF => V_pick [0, 1, 2] rfl (r_X12_ofTrunk_b0 v0 v1 v2 h e hF))
theorem dX12_noRoom_0 : decode cX12_noRoom 0 = .ok (.iload_n 1, 1) := by decide +kernel
theorem dX12_noRoom_1 : decode cX12_noRoom 1 = .ok (.iconst 0, 1) := by decide +kernel
theorem dX12_noRoom_2 : decode cX12_noRoom 2 = .ok (.aload_n 0, 1) := by decide +kernel
theorem dX12_noRoom_3 : decode cX12_noRoom 3 = .ok (.invokevirtual 60, 3) := by decide +kernel
theorem dX12_noRoom_6 : decode cX12_noRoom 6 = .ok (.iconst 1, 1) := by decide +kernel
theorem dX12_noRoom_7 : decode cX12_noRoom 7 = .ok (.isub, 1) := by decide +kernel
theorem dX12_noRoom_8 : decode cX12_noRoom 8 = .ok (.invokestatic 64, 3) := by decide +kernel
theorem dX12_noRoom_11 : decode cX12_noRoom 11 = .ok (.ifCond .ne 7, 3) := by decide +kernel
theorem dX12_noRoom_14 : decode cX12_noRoom 14 = .ok (.iconst 1, 1) := by decide +kernel
theorem dX12_noRoom_15 : decode cX12_noRoom 15 = .ok (.goto 4, 3) := by decide +kernel
theorem dX12_noRoom_18 : decode cX12_noRoom 18 = .ok (.iconst 0, 1) := by decide +kernel
theorem dX12_noRoom_19 : decode cX12_noRoom 19 = .ok (.ireturn, 1) := by decide +kernel
set_option maxRecDepth 100000 in
def F_X12_noRoom_b19 (t0 : Int32) (h : Hp) : Option Int32 :=
  gd (decide (t0 = 0 ∨ t0 = 1)) <| some t0
set_option maxHeartbeats 4000000 in
set_option maxRecDepth 100000 in
theorem r_X12_noRoom_b19 (t0 : Int32) (h : Hp) {x : Cx} {r : Int32} (e : F_X12_noRoom_b19 t0 h = some r) (hF : Fin9 M_X12_noRoom x (some .boolean) (some (.int r)) h) : V M_X12_noRoom x 1 19 [] [.int t0] h 0 0 := by
  unfold F_X12_noRoom_b19 at e
  obtain ⟨g6, e⟩ := gd_some e
  cases e
  exact V_zret (pc := 19) dX12_noRoom_19 (z01 (of_decide_eq_true g6)) hF
set_option maxRecDepth 100000 in
def F_X12_noRoom_b0 (v0 : Nat) (v1 : Int32) (h : Hp) : Option Int32 :=
  ob (F_X12_rooms v0 h) fun r2 => gd (decide (kd h v0 = 11)) <| ob (F_X12_in v1 (0 : Int32) (r2 - (1 : Int32)) h) fun r5 => (if r5 = 0 then F_X12_noRoom_b19 (1 : Int32) h else F_X12_noRoom_b19 (0 : Int32) h)
set_option maxHeartbeats 4000000 in
set_option maxRecDepth 100000 in
theorem r_X12_noRoom_b0 (v0 : Nat) (v1 : Int32) (h : Hp) {x : Cx} {r : Int32} (e : F_X12_noRoom_b0 v0 v1 h = some r) (hF : Fin9 M_X12_noRoom x (some .boolean) (some (.int r)) h) : V M_X12_noRoom x 1 0 [(0, .ref v0), (1, .int v1)] [] h 0 0 := by
  unfold F_X12_noRoom_b0 at e
  refine V_iload_n (pc := 0) (i := 1) dX12_noRoom_0 rfl rfl ?_
  refine V_iconst (pc := 1) (v := (0 : Int32)) dX12_noRoom_1 (by decide) ?_
  refine V_aload_n (pc := 2) (i := 0) dX12_noRoom_2 rfl rfl ?_
  obtain ⟨r2, g1, e⟩ := ob_some e
  obtain ⟨g3, e⟩ := gd_some e
  refine V_callV (pc := 3) (bc := 0) (bs := 0) (mc := 0) (ms := 0) (st := [.int (0 : Int32), .int v1]) (As := []) (a := v0) (h' := h) (r := some (.int r2)) dX12_noRoom_3 ml_X12_60 (ci := 11) rfl (of_decide_eq_true g3) rfl rfl (Nat.le_of_ble_eq_true rfl) (d' := 0) (by decide) (c_X12_rooms (l := x.2.1) v0 h g1) ?_
  refine V_iconst (pc := 6) (v := (1 : Int32)) dX12_noRoom_6 (by decide) ?_
  refine V_isub (pc := 7) dX12_noRoom_7 ?_
  obtain ⟨r5, g4, e⟩ := ob_some e
  refine V_callS (pc := 8) (bc := 0) (bs := 0) (mc := 0) (ms := 0) (st := []) (As := [.int v1, .int (0 : Int32), .int (r2 - (1 : Int32))]) (h' := h) (r := some (.int r5)) dX12_noRoom_8 ml_X12_64 rfl rfl (Nat.le_of_ble_eq_true rfl) (d' := 0) (by decide) (c_X12_in (l := x.2.1) v1 (0 : Int32) (r2 - (1 : Int32)) h g4) ?_
  refine V_if_ne (pc := 11) (tgt := 18) dX12_noRoom_11 (by decide) (fun c7 => ?_) (fun c7 => ?_)
  · rw [if_neg c7] at e
    refine V_pick [] rfl ?_
    refine V_iconst (pc := 18) (v := (0 : Int32)) dX12_noRoom_18 (by decide) ?_
    exact V_pick [] rfl (r_X12_noRoom_b19 (0 : Int32) h e hF)
  · rw [if_pos c7] at e
    refine V_pick [] rfl ?_
    refine V_iconst (pc := 14) (v := (1 : Int32)) dX12_noRoom_14 (by decide) ?_
    refine V_goto (pc := 15) (tgt := 19) dX12_noRoom_15 (by decide) ?_
    exact V_pick [] rfl (r_X12_noRoom_b19 (1 : Int32) h e hF)
def F_X12_noRoom (v0 : Nat) (v1 : Int32) (h : Hp) : Option Int32 := F_X12_noRoom_b0 v0 v1 h
theorem c_X12_noRoom {l : Launch} (v0 : Nat) (v1 : Int32) (h : Hp) {r : Int32} (e : F_X12_noRoom v0 v1 h = some r) : Ct l yX12_noRoom M_X12_noRoom (some .boolean) 1 [.ref v0, .int v1] h 0 0 (some (.int r)) h :=
  Ct_of rfl rfl (fun q => by cases q) (Nat.le_of_ble_eq_true rfl) (fun x _ hF => V_pick [0, 1] rfl (r_X12_noRoom_b0 v0 v1 h e hF))
theorem dX12_noGuest_0 : decode cX12_noGuest 0 = .ok (.iload_n 1, 1) := by decide +kernel
theorem dX12_noGuest_1 : decode cX12_noGuest 1 = .ok (.iconst 0, 1) := by decide +kernel
theorem dX12_noGuest_2 : decode cX12_noGuest 2 = .ok (.aload_n 0, 1) := by decide +kernel
theorem dX12_noGuest_3 : decode cX12_noGuest 3 = .ok (.invokevirtual 68, 3) := by decide +kernel
theorem dX12_noGuest_6 : decode cX12_noGuest 6 = .ok (.iconst 1, 1) := by decide +kernel
theorem dX12_noGuest_7 : decode cX12_noGuest 7 = .ok (.isub, 1) := by decide +kernel
theorem dX12_noGuest_8 : decode cX12_noGuest 8 = .ok (.invokestatic 64, 3) := by decide +kernel
theorem dX12_noGuest_11 : decode cX12_noGuest 11 = .ok (.ifCond .ne 7, 3) := by decide +kernel
theorem dX12_noGuest_14 : decode cX12_noGuest 14 = .ok (.iconst 1, 1) := by decide +kernel
theorem dX12_noGuest_15 : decode cX12_noGuest 15 = .ok (.goto 4, 3) := by decide +kernel
theorem dX12_noGuest_18 : decode cX12_noGuest 18 = .ok (.iconst 0, 1) := by decide +kernel
theorem dX12_noGuest_19 : decode cX12_noGuest 19 = .ok (.ireturn, 1) := by decide +kernel
set_option maxRecDepth 100000 in
def F_X12_noGuest_b19 (t0 : Int32) (h : Hp) : Option Int32 :=
  gd (decide (t0 = 0 ∨ t0 = 1)) <| some t0
set_option maxHeartbeats 4000000 in
set_option maxRecDepth 100000 in
theorem r_X12_noGuest_b19 (t0 : Int32) (h : Hp) {x : Cx} {r : Int32} (e : F_X12_noGuest_b19 t0 h = some r) (hF : Fin9 M_X12_noGuest x (some .boolean) (some (.int r)) h) : V M_X12_noGuest x 1 19 [] [.int t0] h 0 0 := by
  unfold F_X12_noGuest_b19 at e
  obtain ⟨g6, e⟩ := gd_some e
  cases e
  exact V_zret (pc := 19) dX12_noGuest_19 (z01 (of_decide_eq_true g6)) hF
set_option maxRecDepth 100000 in
def F_X12_noGuest_b0 (v0 : Nat) (v1 : Int32) (h : Hp) : Option Int32 :=
  ob (F_X12_guests v0 h) fun r2 => gd (decide (kd h v0 = 11)) <| ob (F_X12_in v1 (0 : Int32) (r2 - (1 : Int32)) h) fun r5 => (if r5 = 0 then F_X12_noGuest_b19 (1 : Int32) h else F_X12_noGuest_b19 (0 : Int32) h)
set_option maxHeartbeats 4000000 in
set_option maxRecDepth 100000 in
theorem r_X12_noGuest_b0 (v0 : Nat) (v1 : Int32) (h : Hp) {x : Cx} {r : Int32} (e : F_X12_noGuest_b0 v0 v1 h = some r) (hF : Fin9 M_X12_noGuest x (some .boolean) (some (.int r)) h) : V M_X12_noGuest x 1 0 [(0, .ref v0), (1, .int v1)] [] h 0 0 := by
  unfold F_X12_noGuest_b0 at e
  refine V_iload_n (pc := 0) (i := 1) dX12_noGuest_0 rfl rfl ?_
  refine V_iconst (pc := 1) (v := (0 : Int32)) dX12_noGuest_1 (by decide) ?_
  refine V_aload_n (pc := 2) (i := 0) dX12_noGuest_2 rfl rfl ?_
  obtain ⟨r2, g1, e⟩ := ob_some e
  obtain ⟨g3, e⟩ := gd_some e
  refine V_callV (pc := 3) (bc := 0) (bs := 0) (mc := 0) (ms := 0) (st := [.int (0 : Int32), .int v1]) (As := []) (a := v0) (h' := h) (r := some (.int r2)) dX12_noGuest_3 ml_X12_68 (ci := 11) rfl (of_decide_eq_true g3) rfl rfl (Nat.le_of_ble_eq_true rfl) (d' := 0) (by decide) (c_X12_guests (l := x.2.1) v0 h g1) ?_
  refine V_iconst (pc := 6) (v := (1 : Int32)) dX12_noGuest_6 (by decide) ?_
  refine V_isub (pc := 7) dX12_noGuest_7 ?_
  obtain ⟨r5, g4, e⟩ := ob_some e
  refine V_callS (pc := 8) (bc := 0) (bs := 0) (mc := 0) (ms := 0) (st := []) (As := [.int v1, .int (0 : Int32), .int (r2 - (1 : Int32))]) (h' := h) (r := some (.int r5)) dX12_noGuest_8 ml_X12_64 rfl rfl (Nat.le_of_ble_eq_true rfl) (d' := 0) (by decide) (c_X12_in (l := x.2.1) v1 (0 : Int32) (r2 - (1 : Int32)) h g4) ?_
  refine V_if_ne (pc := 11) (tgt := 18) dX12_noGuest_11 (by decide) (fun c7 => ?_) (fun c7 => ?_)
  · rw [if_neg c7] at e
    refine V_pick [] rfl ?_
    refine V_iconst (pc := 18) (v := (0 : Int32)) dX12_noGuest_18 (by decide) ?_
    exact V_pick [] rfl (r_X12_noGuest_b19 (0 : Int32) h e hF)
  · rw [if_pos c7] at e
    refine V_pick [] rfl ?_
    refine V_iconst (pc := 14) (v := (1 : Int32)) dX12_noGuest_14 (by decide) ?_
    refine V_goto (pc := 15) (tgt := 19) dX12_noGuest_15 (by decide) ?_
    exact V_pick [] rfl (r_X12_noGuest_b19 (1 : Int32) h e hF)
def F_X12_noGuest (v0 : Nat) (v1 : Int32) (h : Hp) : Option Int32 := F_X12_noGuest_b0 v0 v1 h
theorem c_X12_noGuest {l : Launch} (v0 : Nat) (v1 : Int32) (h : Hp) {r : Int32} (e : F_X12_noGuest v0 v1 h = some r) : Ct l yX12_noGuest M_X12_noGuest (some .boolean) 1 [.ref v0, .int v1] h 0 0 (some (.int r)) h :=
  Ct_of rfl rfl (fun q => by cases q) (Nat.le_of_ble_eq_true rfl) (fun x _ hF => V_pick [0, 1] rfl (r_X12_noGuest_b0 v0 v1 h e hF))
theorem dX12_noTrunk_0 : decode cX12_noTrunk 0 = .ok (.iload_n 1, 1) := by decide +kernel
theorem dX12_noTrunk_1 : decode cX12_noTrunk 1 = .ok (.iconst 0, 1) := by decide +kernel
theorem dX12_noTrunk_2 : decode cX12_noTrunk 2 = .ok (.aload_n 0, 1) := by decide +kernel
theorem dX12_noTrunk_3 : decode cX12_noTrunk 3 = .ok (.invokevirtual 71, 3) := by decide +kernel
theorem dX12_noTrunk_6 : decode cX12_noTrunk 6 = .ok (.iconst 1, 1) := by decide +kernel
theorem dX12_noTrunk_7 : decode cX12_noTrunk 7 = .ok (.isub, 1) := by decide +kernel
theorem dX12_noTrunk_8 : decode cX12_noTrunk 8 = .ok (.invokestatic 64, 3) := by decide +kernel
theorem dX12_noTrunk_11 : decode cX12_noTrunk 11 = .ok (.ifCond .ne 7, 3) := by decide +kernel
theorem dX12_noTrunk_14 : decode cX12_noTrunk 14 = .ok (.iconst 1, 1) := by decide +kernel
theorem dX12_noTrunk_15 : decode cX12_noTrunk 15 = .ok (.goto 4, 3) := by decide +kernel
theorem dX12_noTrunk_18 : decode cX12_noTrunk 18 = .ok (.iconst 0, 1) := by decide +kernel
theorem dX12_noTrunk_19 : decode cX12_noTrunk 19 = .ok (.ireturn, 1) := by decide +kernel
set_option maxRecDepth 100000 in
def F_X12_noTrunk_b19 (t0 : Int32) (h : Hp) : Option Int32 :=
  gd (decide (t0 = 0 ∨ t0 = 1)) <| some t0
set_option maxHeartbeats 4000000 in
set_option maxRecDepth 100000 in
theorem r_X12_noTrunk_b19 (t0 : Int32) (h : Hp) {x : Cx} {r : Int32} (e : F_X12_noTrunk_b19 t0 h = some r) (hF : Fin9 M_X12_noTrunk x (some .boolean) (some (.int r)) h) : V M_X12_noTrunk x 1 19 [] [.int t0] h 0 0 := by
  unfold F_X12_noTrunk_b19 at e
  obtain ⟨g6, e⟩ := gd_some e
  cases e
  exact V_zret (pc := 19) dX12_noTrunk_19 (z01 (of_decide_eq_true g6)) hF
set_option maxRecDepth 100000 in
def F_X12_noTrunk_b0 (v0 : Nat) (v1 : Int32) (h : Hp) : Option Int32 :=
  ob (F_X12_trunks v0 h) fun r2 => gd (decide (kd h v0 = 11)) <| ob (F_X12_in v1 (0 : Int32) (r2 - (1 : Int32)) h) fun r5 => (if r5 = 0 then F_X12_noTrunk_b19 (1 : Int32) h else F_X12_noTrunk_b19 (0 : Int32) h)
set_option maxHeartbeats 4000000 in
set_option maxRecDepth 100000 in
theorem r_X12_noTrunk_b0 (v0 : Nat) (v1 : Int32) (h : Hp) {x : Cx} {r : Int32} (e : F_X12_noTrunk_b0 v0 v1 h = some r) (hF : Fin9 M_X12_noTrunk x (some .boolean) (some (.int r)) h) : V M_X12_noTrunk x 1 0 [(0, .ref v0), (1, .int v1)] [] h 0 0 := by
  unfold F_X12_noTrunk_b0 at e
  refine V_iload_n (pc := 0) (i := 1) dX12_noTrunk_0 rfl rfl ?_
  refine V_iconst (pc := 1) (v := (0 : Int32)) dX12_noTrunk_1 (by decide) ?_
  refine V_aload_n (pc := 2) (i := 0) dX12_noTrunk_2 rfl rfl ?_
  obtain ⟨r2, g1, e⟩ := ob_some e
  obtain ⟨g3, e⟩ := gd_some e
  refine V_callV (pc := 3) (bc := 0) (bs := 0) (mc := 0) (ms := 0) (st := [.int (0 : Int32), .int v1]) (As := []) (a := v0) (h' := h) (r := some (.int r2)) dX12_noTrunk_3 ml_X12_71 (ci := 11) rfl (of_decide_eq_true g3) rfl rfl (Nat.le_of_ble_eq_true rfl) (d' := 0) (by decide) (c_X12_trunks (l := x.2.1) v0 h g1) ?_
  refine V_iconst (pc := 6) (v := (1 : Int32)) dX12_noTrunk_6 (by decide) ?_
  refine V_isub (pc := 7) dX12_noTrunk_7 ?_
  obtain ⟨r5, g4, e⟩ := ob_some e
  refine V_callS (pc := 8) (bc := 0) (bs := 0) (mc := 0) (ms := 0) (st := []) (As := [.int v1, .int (0 : Int32), .int (r2 - (1 : Int32))]) (h' := h) (r := some (.int r5)) dX12_noTrunk_8 ml_X12_64 rfl rfl (Nat.le_of_ble_eq_true rfl) (d' := 0) (by decide) (c_X12_in (l := x.2.1) v1 (0 : Int32) (r2 - (1 : Int32)) h g4) ?_
  refine V_if_ne (pc := 11) (tgt := 18) dX12_noTrunk_11 (by decide) (fun c7 => ?_) (fun c7 => ?_)
  · rw [if_neg c7] at e
    refine V_pick [] rfl ?_
    refine V_iconst (pc := 18) (v := (0 : Int32)) dX12_noTrunk_18 (by decide) ?_
    exact V_pick [] rfl (r_X12_noTrunk_b19 (0 : Int32) h e hF)
  · rw [if_pos c7] at e
    refine V_pick [] rfl ?_
    refine V_iconst (pc := 14) (v := (1 : Int32)) dX12_noTrunk_14 (by decide) ?_
    refine V_goto (pc := 15) (tgt := 19) dX12_noTrunk_15 (by decide) ?_
    exact V_pick [] rfl (r_X12_noTrunk_b19 (1 : Int32) h e hF)
def F_X12_noTrunk (v0 : Nat) (v1 : Int32) (h : Hp) : Option Int32 := F_X12_noTrunk_b0 v0 v1 h
theorem c_X12_noTrunk {l : Launch} (v0 : Nat) (v1 : Int32) (h : Hp) {r : Int32} (e : F_X12_noTrunk v0 v1 h = some r) : Ct l yX12_noTrunk M_X12_noTrunk (some .boolean) 1 [.ref v0, .int v1] h 0 0 (some (.int r)) h :=
  Ct_of rfl rfl (fun q => by cases q) (Nat.le_of_ble_eq_true rfl) (fun x _ hF => V_pick [0, 1] rfl (r_X12_noTrunk_b0 v0 v1 h e hF))
theorem dX12_farOf_0 : decode cX12_farOf 0 = .ok (.iload_n 0, 1) := by decide +kernel
theorem dX12_farOf_1 : decode cX12_farOf 1 = .ok (.invokestatic 74, 3) := by decide +kernel
theorem dX12_farOf_4 : decode cX12_farOf 4 = .ok (.iload_n 1, 1) := by decide +kernel
theorem dX12_farOf_5 : decode cX12_farOf 5 = .ok (.invokestatic 74, 3) := by decide +kernel
theorem dX12_farOf_8 : decode cX12_farOf 8 = .ok (.iadd, 1) := by decide +kernel
theorem dX12_farOf_9 : decode cX12_farOf 9 = .ok (.ireturn, 1) := by decide +kernel
set_option maxRecDepth 100000 in
def F_X12_farOf_b0 (v0 : Int32) (v1 : Int32) (h : Hp) : Option Int32 :=
  some ((jabs v0) + (jabs v1))
set_option maxHeartbeats 4000000 in
set_option maxRecDepth 100000 in
theorem r_X12_farOf_b0 (v0 : Int32) (v1 : Int32) (h : Hp) {x : Cx} {r : Int32} (e : F_X12_farOf_b0 v0 v1 h = some r) (hF : Fin9 M_X12_farOf x (some .int) (some (.int r)) h) : V M_X12_farOf x 1 0 [(0, .int v0), (1, .int v1)] [] h 0 0 := by
  unfold F_X12_farOf_b0 at e
  refine V_iload_n (pc := 0) (i := 0) dX12_farOf_0 rfl rfl ?_
  refine V_abs (pc := 1) dX12_farOf_1 wm_X12_74 (by decide) (Nat.le_of_ble_eq_true rfl) ?_
  refine V_iload_n (pc := 4) (i := 1) dX12_farOf_4 rfl rfl ?_
  refine V_abs (pc := 5) dX12_farOf_5 wm_X12_74 (by decide) (Nat.le_of_ble_eq_true rfl) ?_
  refine V_iadd (pc := 8) dX12_farOf_8 ?_
  cases e
  exact V_iret (pc := 9) dX12_farOf_9 hF
def F_X12_farOf (v0 : Int32) (v1 : Int32) (h : Hp) : Option Int32 := F_X12_farOf_b0 v0 v1 h
theorem c_X12_farOf {l : Launch} (v0 : Int32) (v1 : Int32) (h : Hp) {r : Int32} (e : F_X12_farOf v0 v1 h = some r) : Ct l yX12_farOf M_X12_farOf (some .int) 1 [.int v0, .int v1] h 0 0 (some (.int r)) h :=
  Ct_of rfl rfl (fun q => by cases q) (Nat.le_of_ble_eq_true rfl) (fun x _ hF => V_pick [0, 1] rfl (r_X12_farOf_b0 v0 v1 h e hF))
theorem dX12_feed_0 : decode cX12_feed 0 = .ok (.aload_n 0, 1) := by decide +kernel
theorem dX12_feed_1 : decode cX12_feed 1 = .ok (.iconst 0, 1) := by decide +kernel
theorem dX12_feed_2 : decode cX12_feed 2 = .ok (.putfield 3, 3) := by decide +kernel
theorem dX12_feed_5 : decode cX12_feed 5 = .ok (.aload_n 0, 1) := by decide +kernel
theorem dX12_feed_6 : decode cX12_feed 6 = .ok (.getfield 80, 3) := by decide +kernel
theorem dX12_feed_9 : decode cX12_feed 9 = .ok (.bipush 20, 2) := by decide +kernel
theorem dX12_feed_11 : decode cX12_feed 11 = .ok (.iadd, 1) := by decide +kernel
theorem dX12_feed_12 : decode cX12_feed 12 = .ok (.sipush 400, 3) := by decide +kernel
theorem dX12_feed_15 : decode cX12_feed 15 = .ok (.if_icmp .le 5, 3) := by decide +kernel
theorem dX12_feed_18 : decode cX12_feed 18 = .ok (.iconst (-1), 1) := by decide +kernel
theorem dX12_feed_19 : decode cX12_feed 19 = .ok (.ireturn, 1) := by decide +kernel
theorem dX12_feed_20 : decode cX12_feed 20 = .ok (.aload_n 0, 1) := by decide +kernel
theorem dX12_feed_21 : decode cX12_feed 21 = .ok (.getfield 30, 3) := by decide +kernel
theorem dX12_feed_24 : decode cX12_feed 24 = .ok (.iconst 0, 1) := by decide +kernel
theorem dX12_feed_25 : decode cX12_feed 25 = .ok (.iload_n 1, 1) := by decide +kernel
theorem dX12_feed_26 : decode cX12_feed 26 = .ok (.iastore, 1) := by decide +kernel
theorem dX12_feed_27 : decode cX12_feed 27 = .ok (.aload_n 0, 1) := by decide +kernel
theorem dX12_feed_28 : decode cX12_feed 28 = .ok (.getfield 30, 3) := by decide +kernel
theorem dX12_feed_31 : decode cX12_feed 31 = .ok (.iconst 1, 1) := by decide +kernel
theorem dX12_feed_32 : decode cX12_feed 32 = .ok (.iload_n 2, 1) := by decide +kernel
theorem dX12_feed_33 : decode cX12_feed 33 = .ok (.iastore, 1) := by decide +kernel
theorem dX12_feed_34 : decode cX12_feed 34 = .ok (.aload_n 0, 1) := by decide +kernel
theorem dX12_feed_35 : decode cX12_feed 35 = .ok (.getfield 30, 3) := by decide +kernel
theorem dX12_feed_38 : decode cX12_feed 38 = .ok (.iconst 2, 1) := by decide +kernel
theorem dX12_feed_39 : decode cX12_feed 39 = .ok (.iload_n 3, 1) := by decide +kernel
theorem dX12_feed_40 : decode cX12_feed 40 = .ok (.iastore, 1) := by decide +kernel
theorem dX12_feed_41 : decode cX12_feed 41 = .ok (.aload_n 0, 1) := by decide +kernel
theorem dX12_feed_42 : decode cX12_feed 42 = .ok (.getfield 30, 3) := by decide +kernel
theorem dX12_feed_45 : decode cX12_feed 45 = .ok (.iconst 3, 1) := by decide +kernel
theorem dX12_feed_46 : decode cX12_feed 46 = .ok (.iload 4, 2) := by decide +kernel
theorem dX12_feed_48 : decode cX12_feed 48 = .ok (.iastore, 1) := by decide +kernel
theorem dX12_feed_49 : decode cX12_feed 49 = .ok (.aload_n 0, 1) := by decide +kernel
theorem dX12_feed_50 : decode cX12_feed 50 = .ok (.getfield 30, 3) := by decide +kernel
theorem dX12_feed_53 : decode cX12_feed 53 = .ok (.iconst 4, 1) := by decide +kernel
theorem dX12_feed_54 : decode cX12_feed 54 = .ok (.iload 5, 2) := by decide +kernel
theorem dX12_feed_56 : decode cX12_feed 56 = .ok (.iastore, 1) := by decide +kernel
theorem dX12_feed_57 : decode cX12_feed 57 = .ok (.iconst 0, 1) := by decide +kernel
theorem dX12_feed_58 : decode cX12_feed 58 = .ok (.istore 6, 2) := by decide +kernel
theorem dX12_feed_60 : decode cX12_feed 60 = .ok (.iload 6, 2) := by decide +kernel
theorem dX12_feed_62 : decode cX12_feed 62 = .ok (.bipush 20, 2) := by decide +kernel
theorem dX12_feed_64 : decode cX12_feed 64 = .ok (.if_icmp .ge 42, 3) := by decide +kernel
theorem dX12_feed_67 : decode cX12_feed 67 = .ok (.aload_n 0, 1) := by decide +kernel
theorem dX12_feed_68 : decode cX12_feed 68 = .ok (.getfield 23, 3) := by decide +kernel
theorem dX12_feed_71 : decode cX12_feed 71 = .ok (.aload_n 0, 1) := by decide +kernel
theorem dX12_feed_72 : decode cX12_feed 72 = .ok (.getfield 80, 3) := by decide +kernel
theorem dX12_feed_75 : decode cX12_feed 75 = .ok (.iload 6, 2) := by decide +kernel
theorem dX12_feed_77 : decode cX12_feed 77 = .ok (.iadd, 1) := by decide +kernel
theorem dX12_feed_78 : decode cX12_feed 78 = .ok (.aload_n 0, 1) := by decide +kernel
theorem dX12_feed_79 : decode cX12_feed 79 = .ok (.getfield 30, 3) := by decide +kernel
theorem dX12_feed_82 : decode cX12_feed 82 = .ok (.iload 6, 2) := by decide +kernel
theorem dX12_feed_84 : decode cX12_feed 84 = .ok (.iconst 4, 1) := by decide +kernel
theorem dX12_feed_85 : decode cX12_feed 85 = .ok (.idiv, 1) := by decide +kernel
theorem dX12_feed_86 : decode cX12_feed 86 = .ok (.iaload, 1) := by decide +kernel
theorem dX12_feed_87 : decode cX12_feed 87 = .ok (.bipush 24, 2) := by decide +kernel
theorem dX12_feed_89 : decode cX12_feed 89 = .ok (.bipush 8, 2) := by decide +kernel
theorem dX12_feed_91 : decode cX12_feed 91 = .ok (.iload 6, 2) := by decide +kernel
theorem dX12_feed_93 : decode cX12_feed 93 = .ok (.iconst 4, 1) := by decide +kernel
theorem dX12_feed_94 : decode cX12_feed 94 = .ok (.irem, 1) := by decide +kernel
theorem dX12_feed_95 : decode cX12_feed 95 = .ok (.imul, 1) := by decide +kernel
theorem dX12_feed_96 : decode cX12_feed 96 = .ok (.isub, 1) := by decide +kernel
theorem dX12_feed_97 : decode cX12_feed 97 = .ok (.ishr, 1) := by decide +kernel
theorem dX12_feed_98 : decode cX12_feed 98 = .ok (.i2b, 1) := by decide +kernel
theorem dX12_feed_99 : decode cX12_feed 99 = .ok (.bastore, 1) := by decide +kernel
theorem dX12_feed_100 : decode cX12_feed 100 = .ok (.iinc 6 1, 3) := by decide +kernel
theorem dX12_feed_103 : decode cX12_feed 103 = .ok (.goto (-43), 3) := by decide +kernel
theorem dX12_feed_106 : decode cX12_feed 106 = .ok (.aload_n 0, 1) := by decide +kernel
theorem dX12_feed_107 : decode cX12_feed 107 = .ok (.dup, 1) := by decide +kernel
theorem dX12_feed_108 : decode cX12_feed 108 = .ok (.getfield 80, 3) := by decide +kernel
theorem dX12_feed_111 : decode cX12_feed 111 = .ok (.bipush 20, 2) := by decide +kernel
theorem dX12_feed_113 : decode cX12_feed 113 = .ok (.iadd, 1) := by decide +kernel
theorem dX12_feed_114 : decode cX12_feed 114 = .ok (.putfield 80, 3) := by decide +kernel
theorem dX12_feed_117 : decode cX12_feed 117 = .ok (.aload_n 0, 1) := by decide +kernel
theorem dX12_feed_118 : decode cX12_feed 118 = .ok (.getfield 80, 3) := by decide +kernel
theorem dX12_feed_121 : decode cX12_feed 121 = .ok (.ireturn, 1) := by decide +kernel
set_option maxRecDepth 100000 in
def F_X12_feed_l60 (v0 : Nat) (v6 : Int32) (h : Hp) : Option ((Int32 × Hp) ⊕ Hp) :=
  (if (20 : Int32) ≤ v6 then some (.inr h) else gd (decide (kd h v0 = 11)) <| ob (zR h v0 5) fun q29 => ob (zR h v0 12) fun q31 => gd (decide (kd h q31 = 13)) <| gd (ix (v6 / (4 : Int32)) (zl h q31)) <| gd (decide (kd h q29 = 12)) <| gd (ix ((zI h v0 6) + v6) (zl h q29)) <| ob (some (setI h q29 ((zI h v0 6) + v6).toNatClampNeg (vp_nar .byte (((zI h q31 (v6 / (4 : Int32)).toNatClampNeg) >>> (((24 : Int32) - ((8 : Int32) * (v6 - v6 / (4 : Int32) * (4 : Int32)))) &&& 31)).toInt8.toInt32)))) fun h37 => some (.inl (v6 + (1 : Int32), h37)))
set_option maxHeartbeats 4000000 in
set_option maxRecDepth 100000 in
theorem r_X12_feed_l60 (v0 : Nat) (v6 : Int32) (h : Hp) {x : Cx} {o : ((Int32 × Hp) ⊕ Hp)} (e : F_X12_feed_l60 v0 v6 h = some o) (kI : ∀ z, o = .inl z → V M_X12_feed x 0 60 [(0, .ref v0), (6, .int z.1)] [] z.2 0 0) (kE106 : ∀ z : Hp, o = .inr z → V M_X12_feed x 0 106 [(0, .ref v0)] [] z 0 0) : V M_X12_feed x 0 60 [(0, .ref v0), (6, .int v6)] [] h 0 0 := by
  unfold F_X12_feed_l60 at e
  refine V_iload (pc := 60) (i := 6) dX12_feed_60 rfl ?_
  refine V_bipush (pc := 62) (v := (20 : Int32)) dX12_feed_62 (by decide) ?_
  refine V_icmp_ge (pc := 64) (tgt := 106) dX12_feed_64 (by decide) (fun c42 => ?_) (fun c42 => ?_)
  · rw [if_pos c42] at e
    cases e
    exact V_pick [0] rfl (kE106 h rfl)
  · rw [if_neg c42] at e
    refine V_pick [0, 1] rfl ?_
    refine V_aload_n (pc := 67) (i := 0) dX12_feed_67 rfl rfl ?_
    obtain ⟨g28, e⟩ := gd_some e
    obtain ⟨q29, g30, e⟩ := ob_some e
    refine V_getR (pc := 68) (ci := 11) (k := 5) (b := q29) dX12_feed_68 fl_X12_23 rfl (of_decide_eq_true g28) g30 ?_
    refine V_aload_n (pc := 71) (i := 0) dX12_feed_71 rfl rfl ?_
    refine V_getI (pc := 72) (ci := 11) (k := 6) dX12_feed_72 fl_X12_80 rfl (of_decide_eq_true g28) ?_
    refine V_iload (pc := 75) (i := 6) dX12_feed_75 rfl ?_
    refine V_iadd (pc := 77) dX12_feed_77 ?_
    refine V_aload_n (pc := 78) (i := 0) dX12_feed_78 rfl rfl ?_
    obtain ⟨q31, g32, e⟩ := ob_some e
    refine V_getR (pc := 79) (ci := 11) (k := 12) (b := q31) dX12_feed_79 fl_X12_30 rfl (of_decide_eq_true g28) g32 ?_
    refine V_iload (pc := 82) (i := 6) dX12_feed_82 rfl ?_
    refine V_iconst (pc := 84) (v := (4 : Int32)) dX12_feed_84 (by decide) ?_
    refine V_idiv (pc := 85) dX12_feed_85 (by decide) ?_
    obtain ⟨g33, e⟩ := gd_some e
    obtain ⟨g34, e⟩ := gd_some e
    refine V_iald (pc := 86) dX12_feed_86 (of_decide_eq_true g33) (ix_in g34) ?_
    refine V_bipush (pc := 87) (v := (24 : Int32)) dX12_feed_87 (by decide) ?_
    refine V_bipush (pc := 89) (v := (8 : Int32)) dX12_feed_89 (by decide) ?_
    refine V_iload (pc := 91) (i := 6) dX12_feed_91 rfl ?_
    refine V_iconst (pc := 93) (v := (4 : Int32)) dX12_feed_93 (by decide) ?_
    refine V_irem (pc := 94) dX12_feed_94 (by decide) ?_
    refine V_imul (pc := 95) dX12_feed_95 ?_
    refine V_isub (pc := 96) dX12_feed_96 ?_
    refine V_ishr (pc := 97) dX12_feed_97 ?_
    refine V_i2b (pc := 98) dX12_feed_98 ?_
    obtain ⟨g35, e⟩ := gd_some e
    obtain ⟨g36, e⟩ := gd_some e
    refine V_bast (pc := 99) dX12_feed_99 (of_decide_eq_true g35) (ix_in g36) ?_
    obtain ⟨h37, g38, e⟩ := ob_some e
    refine V_hp (Option.some.inj g38) ?_
    have k39 : kd h37 v0 = 11 := kd_eq (h := (setI h q29 ((zI h v0 6) + v6).toNatClampNeg (vp_nar .byte (((zI h q31 (v6 / (4 : Int32)).toNatClampNeg) >>> (((24 : Int32) - ((8 : Int32) * (v6 - v6 / (4 : Int32) * (4 : Int32)))) &&& 31)).toInt8.toInt32)))) (Option.some.inj g38) (kd_sI (of_decide_eq_true g28))
    have k40 : kd h37 q31 = 13 := kd_eq (h := (setI h q29 ((zI h v0 6) + v6).toNatClampNeg (vp_nar .byte (((zI h q31 (v6 / (4 : Int32)).toNatClampNeg) >>> (((24 : Int32) - ((8 : Int32) * (v6 - v6 / (4 : Int32) * (4 : Int32)))) &&& 31)).toInt8.toInt32)))) (Option.some.inj g38) (kd_sI (of_decide_eq_true g33))
    have k41 : kd h37 q29 = 12 := kd_eq (h := (setI h q29 ((zI h v0 6) + v6).toNatClampNeg (vp_nar .byte (((zI h q31 (v6 / (4 : Int32)).toNatClampNeg) >>> (((24 : Int32) - ((8 : Int32) * (v6 - v6 / (4 : Int32) * (4 : Int32)))) &&& 31)).toInt8.toInt32)))) (Option.some.inj g38) (kd_sI (of_decide_eq_true g35))
    refine V_iinc (pc := 100) (i := 6) (u := v6 + (1 : Int32)) (lv' := [(6, .int (v6 + (1 : Int32))), (0, .ref v0)]) dX12_feed_100 rfl rfl (by decide) rfl ?_
    refine V_goto (pc := 103) (tgt := 60) dX12_feed_103 (by decide) ?_
    cases e
    exact V_pick [1, 0] rfl (kI (v6 + (1 : Int32), h37) rfl)
set_option maxRecDepth 100000 in
def F_X12_feed_b0 (v0 : Nat) (v1 : Int32) (v2 : Int32) (v3 : Int32) (v4 : Int32) (v5 : Int32) (h : Hp) : Option (Int32 × Hp) :=
  gd (decide (kd h v0 = 11)) <| (if ((zI (setI h v0 0 (0 : Int32)) v0 6) + (20 : Int32)) ≤ (400 : Int32) then ob (zR (setI h v0 0 (0 : Int32)) v0 12) fun q2 => gd (decide (kd (setI h v0 0 (0 : Int32)) q2 = 13)) <| gd (ix (0 : Int32) (zl (setI h v0 0 (0 : Int32)) q2)) <| ob (zR (setI (setI h v0 0 (0 : Int32)) q2 ((0 : Int32)).toNatClampNeg v1) v0 12) fun q6 => gd (decide (kd (setI (setI h v0 0 (0 : Int32)) q2 ((0 : Int32)).toNatClampNeg v1) q6 = 13)) <| gd (ix (1 : Int32) (zl (setI (setI h v0 0 (0 : Int32)) q2 ((0 : Int32)).toNatClampNeg v1) q6)) <| ob (zR (setI (setI (setI h v0 0 (0 : Int32)) q2 ((0 : Int32)).toNatClampNeg v1) q6 ((1 : Int32)).toNatClampNeg v2) v0 12) fun q10 => gd (decide (kd (setI (setI (setI h v0 0 (0 : Int32)) q2 ((0 : Int32)).toNatClampNeg v1) q6 ((1 : Int32)).toNatClampNeg v2) q10 = 13)) <| gd (ix (2 : Int32) (zl (setI (setI (setI h v0 0 (0 : Int32)) q2 ((0 : Int32)).toNatClampNeg v1) q6 ((1 : Int32)).toNatClampNeg v2) q10)) <| ob (some (setI (setI (setI (setI h v0 0 (0 : Int32)) q2 ((0 : Int32)).toNatClampNeg v1) q6 ((1 : Int32)).toNatClampNeg v2) q10 ((2 : Int32)).toNatClampNeg v3)) fun h14 => ob (zR h14 v0 12) fun q20 => gd (decide (kd h14 q20 = 13)) <| gd (ix (3 : Int32) (zl h14 q20)) <| ob (zR (setI h14 q20 ((3 : Int32)).toNatClampNeg v4) v0 12) fun q24 => gd (decide (kd (setI h14 q20 ((3 : Int32)).toNatClampNeg v4) q24 = 13)) <| gd (ix (4 : Int32) (zl (setI h14 q20 ((3 : Int32)).toNatClampNeg v4) q24)) <| ob (iter (fun z : Int32 × Hp => F_X12_feed_l60 v0 z.1 z.2) FU ((0 : Int32), setI (setI h14 q20 ((3 : Int32)).toNatClampNeg v4) q24 ((4 : Int32)).toNatClampNeg v5)) (fun h43 => gd (decide (kd h43 v0 = 11)) <| some (zI (setI h43 v0 6 ((zI h43 v0 6) + (20 : Int32))) v0 6, setI h43 v0 6 ((zI h43 v0 6) + (20 : Int32)))) else some ((-1 : Int32), setI h v0 0 (0 : Int32)))
set_option maxHeartbeats 4000000 in
set_option maxRecDepth 100000 in
theorem r_X12_feed_b0 (v0 : Nat) (v1 : Int32) (v2 : Int32) (v3 : Int32) (v4 : Int32) (v5 : Int32) (h : Hp) {x : Cx} {r : Int32} {hz : Hp} (e : F_X12_feed_b0 v0 v1 v2 v3 v4 v5 h = some (r, hz)) (hF : Fin9 M_X12_feed x (some .int) (some (.int r)) hz) : V M_X12_feed x 0 0 [(0, .ref v0), (1, .int v1), (2, .int v2), (3, .int v3), (4, .int v4), (5, .int v5)] [] h 0 0 := by
  unfold F_X12_feed_b0 at e
  refine V_aload_n (pc := 0) (i := 0) dX12_feed_0 rfl rfl ?_
  refine V_iconst (pc := 1) (v := (0 : Int32)) dX12_feed_1 (by decide) ?_
  obtain ⟨g1, e⟩ := gd_some e
  refine V_putI (pc := 2) (ci := 11) (k := 0) dX12_feed_2 fp_X12_3 rfl (of_decide_eq_true g1) ?_
  refine V_aload_n (pc := 5) (i := 0) dX12_feed_5 rfl rfl ?_
  refine V_getI (pc := 6) (ci := 11) (k := 6) dX12_feed_6 fl_X12_80 rfl (kd_sI (of_decide_eq_true g1)) ?_
  refine V_bipush (pc := 9) (v := (20 : Int32)) dX12_feed_9 (by decide) ?_
  refine V_iadd (pc := 11) dX12_feed_11 ?_
  refine V_sipush (pc := 12) (v := (400 : Int32)) dX12_feed_12 (by decide) ?_
  refine V_icmp_le (pc := 15) (tgt := 20) dX12_feed_15 (by decide) (fun c47 => ?_) (fun c47 => ?_)
  · rw [if_pos c47] at e
    refine V_pick [0, 1, 2, 3, 4, 5] rfl ?_
    refine V_aload_n (pc := 20) (i := 0) dX12_feed_20 rfl rfl ?_
    obtain ⟨q2, g3, e⟩ := ob_some e
    refine V_getR (pc := 21) (ci := 11) (k := 12) (b := q2) dX12_feed_21 fl_X12_30 rfl (kd_sI (of_decide_eq_true g1)) g3 ?_
    refine V_iconst (pc := 24) (v := (0 : Int32)) dX12_feed_24 (by decide) ?_
    refine V_iload_n (pc := 25) (i := 1) dX12_feed_25 rfl rfl ?_
    obtain ⟨g4, e⟩ := gd_some e
    obtain ⟨g5, e⟩ := gd_some e
    refine V_iast (pc := 26) dX12_feed_26 (of_decide_eq_true g4) (ix_in g5) ?_
    refine V_aload_n (pc := 27) (i := 0) dX12_feed_27 rfl rfl ?_
    obtain ⟨q6, g7, e⟩ := ob_some e
    refine V_getR (pc := 28) (ci := 11) (k := 12) (b := q6) dX12_feed_28 fl_X12_30 rfl (kd_sI (kd_sI (of_decide_eq_true g1))) g7 ?_
    refine V_iconst (pc := 31) (v := (1 : Int32)) dX12_feed_31 (by decide) ?_
    refine V_iload_n (pc := 32) (i := 2) dX12_feed_32 rfl rfl ?_
    obtain ⟨g8, e⟩ := gd_some e
    obtain ⟨g9, e⟩ := gd_some e
    refine V_iast (pc := 33) dX12_feed_33 (of_decide_eq_true g8) (ix_in g9) ?_
    refine V_aload_n (pc := 34) (i := 0) dX12_feed_34 rfl rfl ?_
    obtain ⟨q10, g11, e⟩ := ob_some e
    refine V_getR (pc := 35) (ci := 11) (k := 12) (b := q10) dX12_feed_35 fl_X12_30 rfl (kd_sI (kd_sI (kd_sI (of_decide_eq_true g1)))) g11 ?_
    refine V_iconst (pc := 38) (v := (2 : Int32)) dX12_feed_38 (by decide) ?_
    refine V_iload_n (pc := 39) (i := 3) dX12_feed_39 rfl rfl ?_
    obtain ⟨g12, e⟩ := gd_some e
    obtain ⟨g13, e⟩ := gd_some e
    refine V_iast (pc := 40) dX12_feed_40 (of_decide_eq_true g12) (ix_in g13) ?_
    obtain ⟨h14, g15, e⟩ := ob_some e
    refine V_hp (Option.some.inj g15) ?_
    have k16 : kd h14 v0 = 11 := kd_eq (h := (setI (setI (setI (setI h v0 0 (0 : Int32)) q2 ((0 : Int32)).toNatClampNeg v1) q6 ((1 : Int32)).toNatClampNeg v2) q10 ((2 : Int32)).toNatClampNeg v3)) (Option.some.inj g15) (kd_sI (kd_sI (kd_sI (kd_sI (of_decide_eq_true g1)))))
    have k17 : kd h14 q2 = 13 := kd_eq (h := (setI (setI (setI (setI h v0 0 (0 : Int32)) q2 ((0 : Int32)).toNatClampNeg v1) q6 ((1 : Int32)).toNatClampNeg v2) q10 ((2 : Int32)).toNatClampNeg v3)) (Option.some.inj g15) (kd_sI (kd_sI (kd_sI (of_decide_eq_true g4))))
    have k18 : kd h14 q6 = 13 := kd_eq (h := (setI (setI (setI (setI h v0 0 (0 : Int32)) q2 ((0 : Int32)).toNatClampNeg v1) q6 ((1 : Int32)).toNatClampNeg v2) q10 ((2 : Int32)).toNatClampNeg v3)) (Option.some.inj g15) (kd_sI (kd_sI (of_decide_eq_true g8)))
    have k19 : kd h14 q10 = 13 := kd_eq (h := (setI (setI (setI (setI h v0 0 (0 : Int32)) q2 ((0 : Int32)).toNatClampNeg v1) q6 ((1 : Int32)).toNatClampNeg v2) q10 ((2 : Int32)).toNatClampNeg v3)) (Option.some.inj g15) (kd_sI (of_decide_eq_true g12))
    refine V_aload_n (pc := 41) (i := 0) dX12_feed_41 rfl rfl ?_
    obtain ⟨q20, g21, e⟩ := ob_some e
    refine V_getR (pc := 42) (ci := 11) (k := 12) (b := q20) dX12_feed_42 fl_X12_30 rfl k16 g21 ?_
    refine V_iconst (pc := 45) (v := (3 : Int32)) dX12_feed_45 (by decide) ?_
    refine V_iload (pc := 46) (i := 4) dX12_feed_46 rfl ?_
    obtain ⟨g22, e⟩ := gd_some e
    obtain ⟨g23, e⟩ := gd_some e
    refine V_iast (pc := 48) dX12_feed_48 (of_decide_eq_true g22) (ix_in g23) ?_
    refine V_aload_n (pc := 49) (i := 0) dX12_feed_49 rfl rfl ?_
    obtain ⟨q24, g25, e⟩ := ob_some e
    refine V_getR (pc := 50) (ci := 11) (k := 12) (b := q24) dX12_feed_50 fl_X12_30 rfl (kd_sI k16) g25 ?_
    refine V_iconst (pc := 53) (v := (4 : Int32)) dX12_feed_53 (by decide) ?_
    refine V_iload (pc := 54) (i := 5) dX12_feed_54 rfl ?_
    obtain ⟨g26, e⟩ := gd_some e
    obtain ⟨g27, e⟩ := gd_some e
    refine V_iast (pc := 56) dX12_feed_56 (of_decide_eq_true g26) (ix_in g27) ?_
    refine V_iconst (pc := 57) (v := (0 : Int32)) dX12_feed_57 (by decide) ?_
    refine V_istore (pc := 58) (i := 6) (lv' := [(6, .int (0 : Int32)), (0, .ref v0), (1, .int v1), (2, .int v2), (3, .int v3), (4, .int v4), (5, .int v5)]) dX12_feed_58 (by decide) rfl ?_
    refine V_pick [1, 0] rfl ?_
    obtain ⟨y45, g46, e⟩ := ob_some e
    refine iter_V (P := fun z : Int32 × Hp => V M_X12_feed x 0 60 [(0, .ref v0), (6, .int z.1)] [] z.2 0 0) (E := fun z : Hp => V M_X12_feed x 0 106 [(0, .ref v0)] [] z 0 0) (fun z o e9 k1 k2 => r_X12_feed_l60 v0 z.1 z.2 e9 (fun z hz9 => k1 z hz9) (fun z hz9 => k2 _ hz9)) _ _ _ g46 ?_
    clear g46
    obtain ⟨h43, rfl⟩ : ∃ q, q = y45 := ⟨_, rfl⟩
    replace e : (gd (decide (kd h43 v0 = 11)) <| some (zI (setI h43 v0 6 ((zI h43 v0 6) + (20 : Int32))) v0 6, setI h43 v0 6 ((zI h43 v0 6) + (20 : Int32)))) = some (r, hz) := e
    show V M_X12_feed x 0 106 [(0, .ref v0)] [] h43 0 0
    refine V_aload_n (pc := 106) (i := 0) dX12_feed_106 rfl rfl ?_
    refine V_dup (pc := 107) dX12_feed_107 rfl ?_
    obtain ⟨g44, e⟩ := gd_some e
    refine V_getI (pc := 108) (ci := 11) (k := 6) dX12_feed_108 fl_X12_80 rfl (of_decide_eq_true g44) ?_
    refine V_bipush (pc := 111) (v := (20 : Int32)) dX12_feed_111 (by decide) ?_
    refine V_iadd (pc := 113) dX12_feed_113 ?_
    refine V_putI (pc := 114) (ci := 11) (k := 6) dX12_feed_114 fp_X12_80 rfl (of_decide_eq_true g44) ?_
    refine V_aload_n (pc := 117) (i := 0) dX12_feed_117 rfl rfl ?_
    refine V_getI (pc := 118) (ci := 11) (k := 6) dX12_feed_118 fl_X12_80 rfl (kd_sI (of_decide_eq_true g44)) ?_
    cases e
    exact V_iret (pc := 121) dX12_feed_121 hF
  · rw [if_neg c47] at e
    refine V_pick [] rfl ?_
    refine V_iconst (pc := 18) (v := (-1 : Int32)) dX12_feed_18 (by decide) ?_
    cases e
    exact V_iret (pc := 19) dX12_feed_19 hF
def F_X12_feed (v0 : Nat) (v1 : Int32) (v2 : Int32) (v3 : Int32) (v4 : Int32) (v5 : Int32) (h : Hp) : Option (Int32 × Hp) := F_X12_feed_b0 v0 v1 v2 v3 v4 v5 h
theorem c_X12_feed {l : Launch} (v0 : Nat) (v1 : Int32) (v2 : Int32) (v3 : Int32) (v4 : Int32) (v5 : Int32) (h : Hp) {r : Int32} {hz : Hp} (e : F_X12_feed v0 v1 v2 v3 v4 v5 h = some (r, hz)) : Ct l yX12_feed M_X12_feed (some .int) 0 [.ref v0, .int v1, .int v2, .int v3, .int v4, .int v5] h 0 0 (some (.int r)) hz :=
  Ct_of rfl rfl (fun q => by cases q) (Nat.le_of_ble_eq_true rfl) (fun x _ hF => V_pick [0, 1, 2, 3, 4, 5] rfl (r_X12_feed_b0 v0 v1 v2 v3 v4 v5 h e hF))
theorem dX12_end_0 : decode cX12_end 0 = .ok (.aload_n 0, 1) := by decide +kernel
theorem dX12_end_1 : decode cX12_end 1 = .ok (.iconst 0, 1) := by decide +kernel
theorem dX12_end_2 : decode cX12_end 2 = .ok (.putfield 3, 3) := by decide +kernel
theorem dX12_end_5 : decode cX12_end 5 = .ok (.iload_n 1, 1) := by decide +kernel
theorem dX12_end_6 : decode cX12_end 6 = .ok (.ifCond .lt 11, 3) := by decide +kernel
theorem dX12_end_9 : decode cX12_end 9 = .ok (.iload_n 1, 1) := by decide +kernel
theorem dX12_end_10 : decode cX12_end 10 = .ok (.aload_n 0, 1) := by decide +kernel
theorem dX12_end_11 : decode cX12_end 11 = .ok (.getfield 80, 3) := by decide +kernel
theorem dX12_end_14 : decode cX12_end 14 = .ok (.if_icmp .le 5, 3) := by decide +kernel
theorem dX12_end_17 : decode cX12_end 17 = .ok (.iconst 0, 1) := by decide +kernel
theorem dX12_end_18 : decode cX12_end 18 = .ok (.ireturn, 1) := by decide +kernel
theorem dX12_end_19 : decode cX12_end 19 = .ok (.aload_n 0, 1) := by decide +kernel
theorem dX12_end_20 : decode cX12_end 20 = .ok (.iload_n 1, 1) := by decide +kernel
theorem dX12_end_21 : decode cX12_end 21 = .ok (.putfield 80, 3) := by decide +kernel
theorem dX12_end_24 : decode cX12_end 24 = .ok (.iconst 1, 1) := by decide +kernel
theorem dX12_end_25 : decode cX12_end 25 = .ok (.ireturn, 1) := by decide +kernel
set_option maxRecDepth 100000 in
def F_X12_end_b17  (h : Hp) : Option (Int32 × Hp) :=
  some ((0 : Int32), h)
set_option maxHeartbeats 4000000 in
set_option maxRecDepth 100000 in
theorem r_X12_end_b17  (h : Hp) {x : Cx} {r : Int32} {hz : Hp} (e : F_X12_end_b17  h = some (r, hz)) (hF : Fin9 M_X12_end x (some .boolean) (some (.int r)) hz) : V M_X12_end x 0 17 [] [] h 0 0 := by
  unfold F_X12_end_b17 at e
  refine V_iconst (pc := 17) (v := (0 : Int32)) dX12_end_17 (by decide) ?_
  cases e
  exact V_zret (pc := 18) dX12_end_18 rfl hF
set_option maxRecDepth 100000 in
def F_X12_end_b0 (v0 : Nat) (v1 : Int32) (h : Hp) : Option (Int32 × Hp) :=
  gd (decide (kd h v0 = 11)) <| (if v1 < 0 then F_X12_end_b17 (setI h v0 0 (0 : Int32)) else (if v1 ≤ (zI (setI h v0 0 (0 : Int32)) v0 6) then some ((1 : Int32), setI (setI h v0 0 (0 : Int32)) v0 6 v1) else F_X12_end_b17 (setI h v0 0 (0 : Int32))))
set_option maxHeartbeats 4000000 in
set_option maxRecDepth 100000 in
theorem r_X12_end_b0 (v0 : Nat) (v1 : Int32) (h : Hp) {x : Cx} {r : Int32} {hz : Hp} (e : F_X12_end_b0 v0 v1 h = some (r, hz)) (hF : Fin9 M_X12_end x (some .boolean) (some (.int r)) hz) : V M_X12_end x 0 0 [(0, .ref v0), (1, .int v1)] [] h 0 0 := by
  unfold F_X12_end_b0 at e
  refine V_aload_n (pc := 0) (i := 0) dX12_end_0 rfl rfl ?_
  refine V_iconst (pc := 1) (v := (0 : Int32)) dX12_end_1 (by decide) ?_
  obtain ⟨g1, e⟩ := gd_some e
  refine V_putI (pc := 2) (ci := 11) (k := 0) dX12_end_2 fp_X12_3 rfl (of_decide_eq_true g1) ?_
  refine V_iload_n (pc := 5) (i := 1) dX12_end_5 rfl rfl ?_
  refine V_if_lt (pc := 6) (tgt := 17) dX12_end_6 (by decide) (fun c3 => ?_) (fun c3 => ?_)
  · rw [if_pos c3] at e
    exact V_pick [] rfl (r_X12_end_b17 (setI h v0 0 (0 : Int32)) e hF)
  · rw [if_neg c3] at e
    refine V_pick [0, 1] rfl ?_
    refine V_iload_n (pc := 9) (i := 1) dX12_end_9 rfl rfl ?_
    refine V_aload_n (pc := 10) (i := 0) dX12_end_10 rfl rfl ?_
    refine V_getI (pc := 11) (ci := 11) (k := 6) dX12_end_11 fl_X12_80 rfl (kd_sI (of_decide_eq_true g1)) ?_
    refine V_icmp_le (pc := 14) (tgt := 19) dX12_end_14 (by decide) (fun c2 => ?_) (fun c2 => ?_)
    · rw [if_pos c2] at e
      refine V_pick [0, 1] rfl ?_
      refine V_aload_n (pc := 19) (i := 0) dX12_end_19 rfl rfl ?_
      refine V_iload_n (pc := 20) (i := 1) dX12_end_20 rfl rfl ?_
      refine V_putI (pc := 21) (ci := 11) (k := 6) dX12_end_21 fp_X12_80 rfl (kd_sI (of_decide_eq_true g1)) ?_
      refine V_iconst (pc := 24) (v := (1 : Int32)) dX12_end_24 (by decide) ?_
      cases e
      exact V_zret (pc := 25) dX12_end_25 rfl hF
    · rw [if_neg c2] at e
      exact V_pick [] rfl (r_X12_end_b17 (setI h v0 0 (0 : Int32)) e hF)
def F_X12_end (v0 : Nat) (v1 : Int32) (h : Hp) : Option (Int32 × Hp) := F_X12_end_b0 v0 v1 h
theorem c_X12_end {l : Launch} (v0 : Nat) (v1 : Int32) (h : Hp) {r : Int32} {hz : Hp} (e : F_X12_end v0 v1 h = some (r, hz)) : Ct l yX12_end M_X12_end (some .boolean) 0 [.ref v0, .int v1] h 0 0 (some (.int r)) hz :=
  Ct_of rfl rfl (fun q => by cases q) (Nat.le_of_ble_eq_true rfl) (fun x _ hF => V_pick [0, 1] rfl (r_X12_end_b0 v0 v1 h e hF))
theorem dX12_isAt_0 : decode cX12_isAt 0 = .ok (.aload_n 0, 1) := by decide +kernel
theorem dX12_isAt_1 : decode cX12_isAt 1 = .ok (.getfield 83, 3) := by decide +kernel
theorem dX12_isAt_4 : decode cX12_isAt 4 = .ok (.aload_n 0, 1) := by decide +kernel
theorem dX12_isAt_5 : decode cX12_isAt 5 = .ok (.getfield 86, 3) := by decide +kernel
theorem dX12_isAt_8 : decode cX12_isAt 8 = .ok (.if_icmp .ge 33, 3) := by decide +kernel
theorem dX12_isAt_11 : decode cX12_isAt 11 = .ok (.aload_n 0, 1) := by decide +kernel
theorem dX12_isAt_12 : decode cX12_isAt 12 = .ok (.getfield 23, 3) := by decide +kernel
theorem dX12_isAt_15 : decode cX12_isAt 15 = .ok (.aload_n 0, 1) := by decide +kernel
theorem dX12_isAt_16 : decode cX12_isAt 16 = .ok (.getfield 83, 3) := by decide +kernel
theorem dX12_isAt_19 : decode cX12_isAt 19 = .ok (.baload, 1) := by decide +kernel
theorem dX12_isAt_20 : decode cX12_isAt 20 = .ok (.iload_n 1, 1) := by decide +kernel
theorem dX12_isAt_21 : decode cX12_isAt 21 = .ok (.if_icmp .lt 20, 3) := by decide +kernel
theorem dX12_isAt_24 : decode cX12_isAt 24 = .ok (.aload_n 0, 1) := by decide +kernel
theorem dX12_isAt_25 : decode cX12_isAt 25 = .ok (.getfield 23, 3) := by decide +kernel
theorem dX12_isAt_28 : decode cX12_isAt 28 = .ok (.aload_n 0, 1) := by decide +kernel
theorem dX12_isAt_29 : decode cX12_isAt 29 = .ok (.getfield 83, 3) := by decide +kernel
theorem dX12_isAt_32 : decode cX12_isAt 32 = .ok (.baload, 1) := by decide +kernel
theorem dX12_isAt_33 : decode cX12_isAt 33 = .ok (.iload_n 2, 1) := by decide +kernel
theorem dX12_isAt_34 : decode cX12_isAt 34 = .ok (.if_icmp .gt 7, 3) := by decide +kernel
theorem dX12_isAt_37 : decode cX12_isAt 37 = .ok (.iconst 1, 1) := by decide +kernel
theorem dX12_isAt_38 : decode cX12_isAt 38 = .ok (.goto 4, 3) := by decide +kernel
theorem dX12_isAt_41 : decode cX12_isAt 41 = .ok (.iconst 0, 1) := by decide +kernel
theorem dX12_isAt_42 : decode cX12_isAt 42 = .ok (.ireturn, 1) := by decide +kernel
set_option maxRecDepth 100000 in
def F_X12_isAt_b42 (t0 : Int32) (h : Hp) : Option Int32 :=
  gd (decide (t0 = 0 ∨ t0 = 1)) <| some t0
set_option maxHeartbeats 4000000 in
set_option maxRecDepth 100000 in
theorem r_X12_isAt_b42 (t0 : Int32) (h : Hp) {x : Cx} {r : Int32} (e : F_X12_isAt_b42 t0 h = some r) (hF : Fin9 M_X12_isAt x (some .boolean) (some (.int r)) h) : V M_X12_isAt x 0 42 [] [.int t0] h 0 0 := by
  unfold F_X12_isAt_b42 at e
  obtain ⟨g2, e⟩ := gd_some e
  cases e
  exact V_zret (pc := 42) dX12_isAt_42 (z01 (of_decide_eq_true g2)) hF
set_option maxRecDepth 100000 in
def F_X12_isAt_b41  (h : Hp) : Option Int32 :=
  F_X12_isAt_b42 (0 : Int32) h
set_option maxHeartbeats 4000000 in
set_option maxRecDepth 100000 in
theorem r_X12_isAt_b41  (h : Hp) {x : Cx} {r : Int32} (e : F_X12_isAt_b41  h = some r) (hF : Fin9 M_X12_isAt x (some .boolean) (some (.int r)) h) : V M_X12_isAt x 0 41 [] [] h 0 0 := by
  unfold F_X12_isAt_b41 at e
  refine V_iconst (pc := 41) (v := (0 : Int32)) dX12_isAt_41 (by decide) ?_
  exact V_pick [] rfl (r_X12_isAt_b42 (0 : Int32) h e hF)
set_option maxRecDepth 100000 in
def F_X12_isAt_b0 (v0 : Nat) (v1 : Int32) (v2 : Int32) (h : Hp) : Option Int32 :=
  gd (decide (kd h v0 = 11)) <| (if (zI h v0 8) ≤ (zI h v0 7) then F_X12_isAt_b41 h else ob (zR h v0 5) fun q3 => gd (decide (kd h q3 = 12)) <| gd (ix (zI h v0 7) (zl h q3)) <| (if (zI h q3 (zI h v0 7).toNatClampNeg) < v1 then F_X12_isAt_b41 h else ob (zR h v0 5) fun q7 => gd (decide (kd h q7 = 12)) <| gd (ix (zI h v0 7) (zl h q7)) <| (if v2 < (zI h q7 (zI h v0 7).toNatClampNeg) then F_X12_isAt_b41 h else F_X12_isAt_b42 (1 : Int32) h)))
set_option maxHeartbeats 4000000 in
set_option maxRecDepth 100000 in
theorem r_X12_isAt_b0 (v0 : Nat) (v1 : Int32) (v2 : Int32) (h : Hp) {x : Cx} {r : Int32} (e : F_X12_isAt_b0 v0 v1 v2 h = some r) (hF : Fin9 M_X12_isAt x (some .boolean) (some (.int r)) h) : V M_X12_isAt x 0 0 [(0, .ref v0), (1, .int v1), (2, .int v2)] [] h 0 0 := by
  unfold F_X12_isAt_b0 at e
  refine V_aload_n (pc := 0) (i := 0) dX12_isAt_0 rfl rfl ?_
  obtain ⟨g1, e⟩ := gd_some e
  refine V_getI (pc := 1) (ci := 11) (k := 7) dX12_isAt_1 fl_X12_83 rfl (of_decide_eq_true g1) ?_
  refine V_aload_n (pc := 4) (i := 0) dX12_isAt_4 rfl rfl ?_
  refine V_getI (pc := 5) (ci := 11) (k := 8) dX12_isAt_5 fl_X12_86 rfl (of_decide_eq_true g1) ?_
  refine V_icmp_ge (pc := 8) (tgt := 41) dX12_isAt_8 (by decide) (fun c13 => ?_) (fun c13 => ?_)
  · rw [if_pos c13] at e
    exact V_pick [] rfl (r_X12_isAt_b41 h e hF)
  · rw [if_neg c13] at e
    refine V_pick [0, 1, 2] rfl ?_
    refine V_aload_n (pc := 11) (i := 0) dX12_isAt_11 rfl rfl ?_
    obtain ⟨q3, g4, e⟩ := ob_some e
    refine V_getR (pc := 12) (ci := 11) (k := 5) (b := q3) dX12_isAt_12 fl_X12_23 rfl (of_decide_eq_true g1) g4 ?_
    refine V_aload_n (pc := 15) (i := 0) dX12_isAt_15 rfl rfl ?_
    refine V_getI (pc := 16) (ci := 11) (k := 7) dX12_isAt_16 fl_X12_83 rfl (of_decide_eq_true g1) ?_
    obtain ⟨g5, e⟩ := gd_some e
    obtain ⟨g6, e⟩ := gd_some e
    refine V_bald (pc := 19) dX12_isAt_19 (of_decide_eq_true g5) (ix_in g6) ?_
    refine V_iload_n (pc := 20) (i := 1) dX12_isAt_20 rfl rfl ?_
    refine V_icmp_lt (pc := 21) (tgt := 41) dX12_isAt_21 (by decide) (fun c12 => ?_) (fun c12 => ?_)
    · rw [if_pos c12] at e
      exact V_pick [] rfl (r_X12_isAt_b41 h e hF)
    · rw [if_neg c12] at e
      refine V_pick [0, 2] rfl ?_
      refine V_aload_n (pc := 24) (i := 0) dX12_isAt_24 rfl rfl ?_
      obtain ⟨q7, g8, e⟩ := ob_some e
      refine V_getR (pc := 25) (ci := 11) (k := 5) (b := q7) dX12_isAt_25 fl_X12_23 rfl (of_decide_eq_true g1) g8 ?_
      refine V_aload_n (pc := 28) (i := 0) dX12_isAt_28 rfl rfl ?_
      refine V_getI (pc := 29) (ci := 11) (k := 7) dX12_isAt_29 fl_X12_83 rfl (of_decide_eq_true g1) ?_
      obtain ⟨g9, e⟩ := gd_some e
      obtain ⟨g10, e⟩ := gd_some e
      refine V_bald (pc := 32) dX12_isAt_32 (of_decide_eq_true g9) (ix_in g10) ?_
      refine V_iload_n (pc := 33) (i := 2) dX12_isAt_33 rfl rfl ?_
      refine V_icmp_gt (pc := 34) (tgt := 41) dX12_isAt_34 (by decide) (fun c11 => ?_) (fun c11 => ?_)
      · rw [if_pos c11] at e
        exact V_pick [] rfl (r_X12_isAt_b41 h e hF)
      · rw [if_neg c11] at e
        refine V_pick [] rfl ?_
        refine V_iconst (pc := 37) (v := (1 : Int32)) dX12_isAt_37 (by decide) ?_
        refine V_goto (pc := 38) (tgt := 42) dX12_isAt_38 (by decide) ?_
        exact V_pick [] rfl (r_X12_isAt_b42 (1 : Int32) h e hF)
def F_X12_isAt (v0 : Nat) (v1 : Int32) (v2 : Int32) (h : Hp) : Option Int32 := F_X12_isAt_b0 v0 v1 v2 h
theorem c_X12_isAt {l : Launch} (v0 : Nat) (v1 : Int32) (v2 : Int32) (h : Hp) {r : Int32} (e : F_X12_isAt v0 v1 v2 h = some r) : Ct l yX12_isAt M_X12_isAt (some .boolean) 0 [.ref v0, .int v1, .int v2] h 0 0 (some (.int r)) h :=
  Ct_of rfl rfl (fun q => by cases q) (Nat.le_of_ble_eq_true rfl) (fun x _ hF => V_pick [0, 1, 2] rfl (r_X12_isAt_b0 v0 v1 v2 h e hF))
theorem dX12_blanks_0 : decode cX12_blanks 0 = .ok (.aload_n 0, 1) := by decide +kernel
theorem dX12_blanks_1 : decode cX12_blanks 1 = .ok (.bipush 32, 2) := by decide +kernel
theorem dX12_blanks_3 : decode cX12_blanks 3 = .ok (.bipush 32, 2) := by decide +kernel
theorem dX12_blanks_5 : decode cX12_blanks 5 = .ok (.invokevirtual 89, 3) := by decide +kernel
theorem dX12_blanks_8 : decode cX12_blanks 8 = .ok (.ifCond .eq 16, 3) := by decide +kernel
theorem dX12_blanks_11 : decode cX12_blanks 11 = .ok (.aload_n 0, 1) := by decide +kernel
theorem dX12_blanks_12 : decode cX12_blanks 12 = .ok (.dup, 1) := by decide +kernel
theorem dX12_blanks_13 : decode cX12_blanks 13 = .ok (.getfield 83, 3) := by decide +kernel
theorem dX12_blanks_16 : decode cX12_blanks 16 = .ok (.iconst 1, 1) := by decide +kernel
theorem dX12_blanks_17 : decode cX12_blanks 17 = .ok (.iadd, 1) := by decide +kernel
theorem dX12_blanks_18 : decode cX12_blanks 18 = .ok (.putfield 83, 3) := by decide +kernel
theorem dX12_blanks_21 : decode cX12_blanks 21 = .ok (.goto (-21), 3) := by decide +kernel
theorem dX12_blanks_24 : decode cX12_blanks 24 = .ok (.aload_n 0, 1) := by decide +kernel
theorem dX12_blanks_25 : decode cX12_blanks 25 = .ok (.aload_n 0, 1) := by decide +kernel
theorem dX12_blanks_26 : decode cX12_blanks 26 = .ok (.getfield 83, 3) := by decide +kernel
theorem dX12_blanks_29 : decode cX12_blanks 29 = .ok (.putfield 93, 3) := by decide +kernel
theorem dX12_blanks_32 : decode cX12_blanks 32 = .ok (.return_, 1) := by decide +kernel
set_option maxRecDepth 100000 in
def F_X12_blanks_l0 (v0 : Nat) (h : Hp) : Option (Hp ⊕ Hp) :=
  ob (F_X12_isAt v0 (32 : Int32) (32 : Int32) h) fun r2 => gd (decide (kd h v0 = 11)) <| (if r2 = 0 then some (.inr h) else some (.inl (setI h v0 7 ((zI h v0 7) + (1 : Int32)))))
set_option maxHeartbeats 4000000 in
set_option maxRecDepth 100000 in
theorem r_X12_blanks_l0 (v0 : Nat) (h : Hp) {x : Cx} {o : (Hp ⊕ Hp)} (e : F_X12_blanks_l0 v0 h = some o) (kI : ∀ z, o = .inl z → V M_X12_blanks x 1 0 [(0, .ref v0)] [] z 0 0) (kE24 : ∀ z : Hp, o = .inr z → V M_X12_blanks x 1 24 [(0, .ref v0)] [] z 0 0) : V M_X12_blanks x 1 0 [(0, .ref v0)] [] h 0 0 := by
  unfold F_X12_blanks_l0 at e
  refine V_aload_n (pc := 0) (i := 0) dX12_blanks_0 rfl rfl ?_
  refine V_bipush (pc := 1) (v := (32 : Int32)) dX12_blanks_1 (by decide) ?_
  refine V_bipush (pc := 3) (v := (32 : Int32)) dX12_blanks_3 (by decide) ?_
  obtain ⟨r2, g1, e⟩ := ob_some e
  obtain ⟨g3, e⟩ := gd_some e
  refine V_callV (pc := 5) (bc := 0) (bs := 0) (mc := 0) (ms := 0) (st := []) (As := [.int (32 : Int32), .int (32 : Int32)]) (a := v0) (h' := h) (r := some (.int r2)) dX12_blanks_5 ml_X12_89 (ci := 11) rfl (of_decide_eq_true g3) rfl rfl (Nat.le_of_ble_eq_true rfl) (d' := 0) (by decide) (c_X12_isAt (l := x.2.1) v0 (32 : Int32) (32 : Int32) h g1) ?_
  refine V_if_eq (pc := 8) (tgt := 24) dX12_blanks_8 (by decide) (fun c4 => ?_) (fun c4 => ?_)
  · rw [if_pos c4] at e
    cases e
    exact V_pick [0] rfl (kE24 h rfl)
  · rw [if_neg c4] at e
    refine V_pick [0] rfl ?_
    refine V_aload_n (pc := 11) (i := 0) dX12_blanks_11 rfl rfl ?_
    refine V_dup (pc := 12) dX12_blanks_12 rfl ?_
    refine V_getI (pc := 13) (ci := 11) (k := 7) dX12_blanks_13 fl_X12_83 rfl (of_decide_eq_true g3) ?_
    refine V_iconst (pc := 16) (v := (1 : Int32)) dX12_blanks_16 (by decide) ?_
    refine V_iadd (pc := 17) dX12_blanks_17 ?_
    refine V_putI (pc := 18) (ci := 11) (k := 7) dX12_blanks_18 fp_X12_83 rfl (of_decide_eq_true g3) ?_
    refine V_goto (pc := 21) (tgt := 0) dX12_blanks_21 (by decide) ?_
    cases e
    exact V_pick [0] rfl (kI (setI h v0 7 ((zI h v0 7) + (1 : Int32))) rfl)
set_option maxRecDepth 100000 in
def F_X12_blanks_b0 (v0 : Nat) (h : Hp) : Option (Unit × Hp) :=
  ob (iter (fun z : Hp => F_X12_blanks_l0 v0 z) FU h) (fun h5 => gd (decide (kd h5 v0 = 11)) <| some ((), setI h5 v0 9 (zI h5 v0 7)))
set_option maxHeartbeats 4000000 in
set_option maxRecDepth 100000 in
theorem r_X12_blanks_b0 (v0 : Nat) (h : Hp) {x : Cx} {r : Unit} {hz : Hp} (e : F_X12_blanks_b0 v0 h = some (r, hz)) (hF : Fin9 M_X12_blanks x none none hz) : V M_X12_blanks x 1 0 [(0, .ref v0)] [] h 0 0 := by
  unfold F_X12_blanks_b0 at e
  refine V_pick [0] rfl ?_
  obtain ⟨y7, g8, e⟩ := ob_some e
  refine iter_V (P := fun z : Hp => V M_X12_blanks x 1 0 [(0, .ref v0)] [] z 0 0) (E := fun z : Hp => V M_X12_blanks x 1 24 [(0, .ref v0)] [] z 0 0) (fun z o e9 k1 k2 => r_X12_blanks_l0 v0 z e9 (fun z hz9 => k1 z hz9) (fun z hz9 => k2 _ hz9)) _ _ _ g8 ?_
  clear g8
  obtain ⟨h5, rfl⟩ : ∃ q, q = y7 := ⟨_, rfl⟩
  replace e : (gd (decide (kd h5 v0 = 11)) <| some ((), setI h5 v0 9 (zI h5 v0 7))) = some (r, hz) := e
  show V M_X12_blanks x 1 24 [(0, .ref v0)] [] h5 0 0
  refine V_aload_n (pc := 24) (i := 0) dX12_blanks_24 rfl rfl ?_
  refine V_aload_n (pc := 25) (i := 0) dX12_blanks_25 rfl rfl ?_
  obtain ⟨g6, e⟩ := gd_some e
  refine V_getI (pc := 26) (ci := 11) (k := 7) dX12_blanks_26 fl_X12_83 rfl (of_decide_eq_true g6) ?_
  refine V_putI (pc := 29) (ci := 11) (k := 9) dX12_blanks_29 fp_X12_93 rfl (of_decide_eq_true g6) ?_
  cases e
  exact V_vret (pc := 32) dX12_blanks_32 hF
def F_X12_blanks (v0 : Nat) (h : Hp) : Option (Unit × Hp) := F_X12_blanks_b0 v0 h
theorem c_X12_blanks {l : Launch} (v0 : Nat) (h : Hp) {r : Unit} {hz : Hp} (e : F_X12_blanks v0 h = some (r, hz)) : Ct l yX12_blanks M_X12_blanks none 1 [.ref v0] h 0 0 none hz :=
  Ct_of rfl rfl (fun q => by cases q) (Nat.le_of_ble_eq_true rfl) (fun x _ hF => V_pick [0] rfl (r_X12_blanks_b0 v0 h e hF))
