theorem dX8_lyingIn_0 : decode cX8_lyingIn 0 = .ok (.iconst 0, 1) := by decide +kernel
theorem dX8_lyingIn_1 : decode cX8_lyingIn 1 = .ok (.istore_n 2, 1) := by decide +kernel
theorem dX8_lyingIn_2 : decode cX8_lyingIn 2 = .ok (.iconst 0, 1) := by decide +kernel
theorem dX8_lyingIn_3 : decode cX8_lyingIn 3 = .ok (.istore_n 3, 1) := by decide +kernel
theorem dX8_lyingIn_4 : decode cX8_lyingIn 4 = .ok (.iload_n 3, 1) := by decide +kernel
theorem dX8_lyingIn_5 : decode cX8_lyingIn 5 = .ok (.aload_n 0, 1) := by decide +kernel
theorem dX8_lyingIn_6 : decode cX8_lyingIn 6 = .ok (.getfield 9, 3) := by decide +kernel
theorem dX8_lyingIn_9 : decode cX8_lyingIn 9 = .ok (.if_icmp .ge 22, 3) := by decide +kernel
theorem dX8_lyingIn_12 : decode cX8_lyingIn 12 = .ok (.aload_n 0, 1) := by decide +kernel
theorem dX8_lyingIn_13 : decode cX8_lyingIn 13 = .ok (.getfield 22, 3) := by decide +kernel
theorem dX8_lyingIn_16 : decode cX8_lyingIn 16 = .ok (.iload_n 3, 1) := by decide +kernel
theorem dX8_lyingIn_17 : decode cX8_lyingIn 17 = .ok (.iaload, 1) := by decide +kernel
theorem dX8_lyingIn_18 : decode cX8_lyingIn 18 = .ok (.iload_n 1, 1) := by decide +kernel
theorem dX8_lyingIn_19 : decode cX8_lyingIn 19 = .ok (.if_icmp .ne 6, 3) := by decide +kernel
theorem dX8_lyingIn_22 : decode cX8_lyingIn 22 = .ok (.iinc 2 1, 3) := by decide +kernel
theorem dX8_lyingIn_25 : decode cX8_lyingIn 25 = .ok (.iinc 3 1, 3) := by decide +kernel
theorem dX8_lyingIn_28 : decode cX8_lyingIn 28 = .ok (.goto (-24), 3) := by decide +kernel
theorem dX8_lyingIn_31 : decode cX8_lyingIn 31 = .ok (.iload_n 2, 1) := by decide +kernel
theorem dX8_lyingIn_32 : decode cX8_lyingIn 32 = .ok (.ireturn, 1) := by decide +kernel
set_option maxRecDepth 100000 in
def F_X8_lyingIn_b25 (v0 : Nat) (v1 : Int32) (v2 : Int32) (v3 : Int32) (h : Hp) : Option ((Int32 × Int32) ⊕ Int32) :=
  some (.inl (v2, v3 + (1 : Int32)))
set_option maxHeartbeats 4000000 in
set_option maxRecDepth 100000 in
theorem r_X8_lyingIn_b25 (v0 : Nat) (v1 : Int32) (v2 : Int32) (v3 : Int32) (h : Hp) {x : Cx} {o : ((Int32 × Int32) ⊕ Int32)} (e : F_X8_lyingIn_b25 v0 v1 v2 v3 h = some o) (kI : ∀ z, o = .inl z → V M_X8_lyingIn x 0 4 [(0, .ref v0), (1, .int v1), (2, .int z.1), (3, .int z.2)] [] h 0 0) (kE31 : ∀ z : Int32, o = .inr z → V M_X8_lyingIn x 0 31 [(2, .int z)] [] h 0 0) : V M_X8_lyingIn x 0 25 [(0, .ref v0), (1, .int v1), (2, .int v2), (3, .int v3)] [] h 0 0 := by
  unfold F_X8_lyingIn_b25 at e
  refine V_iinc (pc := 25) (i := 3) (u := v3 + (1 : Int32)) (lv' := [(3, .int (v3 + (1 : Int32))), (0, .ref v0), (1, .int v1), (2, .int v2)]) dX8_lyingIn_25 rfl rfl (by decide) rfl ?_
  refine V_goto (pc := 28) (tgt := 4) dX8_lyingIn_28 (by decide) ?_
  cases e
  exact V_pick [1, 2, 3, 0] rfl (kI _ rfl)
set_option maxRecDepth 100000 in
def F_X8_lyingIn_l4 (v0 : Nat) (v1 : Int32) (v2 : Int32) (v3 : Int32) (h : Hp) : Option ((Int32 × Int32) ⊕ Int32) :=
  gd (decide (kd h v0 = 7)) <| (if (zI h v0 0) ≤ v3 then some (.inr v2) else ob (zR h v0 3) fun q2 => gd (decide (kd h q2 = 13)) <| gd (ix v3 (zl h q2)) <| (if (zI h q2 (v3).toNatClampNeg) = v1 then F_X8_lyingIn_b25 v0 v1 (v2 + (1 : Int32)) v3 h else F_X8_lyingIn_b25 v0 v1 v2 v3 h))
set_option maxHeartbeats 4000000 in
set_option maxRecDepth 100000 in
theorem r_X8_lyingIn_l4 (v0 : Nat) (v1 : Int32) (v2 : Int32) (v3 : Int32) (h : Hp) {x : Cx} {o : ((Int32 × Int32) ⊕ Int32)} (e : F_X8_lyingIn_l4 v0 v1 v2 v3 h = some o) (kI : ∀ z, o = .inl z → V M_X8_lyingIn x 0 4 [(0, .ref v0), (1, .int v1), (2, .int z.1), (3, .int z.2)] [] h 0 0) (kE31 : ∀ z : Int32, o = .inr z → V M_X8_lyingIn x 0 31 [(2, .int z)] [] h 0 0) : V M_X8_lyingIn x 0 4 [(0, .ref v0), (1, .int v1), (2, .int v2), (3, .int v3)] [] h 0 0 := by
  unfold F_X8_lyingIn_l4 at e
  refine V_iload_n (pc := 4) (i := 3) dX8_lyingIn_4 rfl rfl ?_
  refine V_aload_n (pc := 5) (i := 0) dX8_lyingIn_5 rfl rfl ?_
  obtain ⟨g1, e⟩ := gd_some e
  refine V_getI (pc := 6) (ci := 7) (k := 0) dX8_lyingIn_6 fl_X8_9 rfl (of_decide_eq_true g1) ?_
  refine V_icmp_ge (pc := 9) (tgt := 31) dX8_lyingIn_9 (by decide) (fun c7 => ?_) (fun c7 => ?_)
  · rw [if_pos c7] at e
    cases e
    exact V_pick [2] rfl (kE31 _ rfl)
  · rw [if_neg c7] at e
    refine V_pick [0, 1, 2, 3] rfl ?_
    refine V_aload_n (pc := 12) (i := 0) dX8_lyingIn_12 rfl rfl ?_
    obtain ⟨q2, g3, e⟩ := ob_some e
    refine V_getR (pc := 13) (ci := 7) (k := 3) (b := q2) dX8_lyingIn_13 fl_X8_22 rfl (of_decide_eq_true g1) g3 ?_
    refine V_iload_n (pc := 16) (i := 3) dX8_lyingIn_16 rfl rfl ?_
    obtain ⟨g4, e⟩ := gd_some e
    obtain ⟨g5, e⟩ := gd_some e
    refine V_iald (pc := 17) dX8_lyingIn_17 (of_decide_eq_true g4) (ix_in g5) ?_
    refine V_iload_n (pc := 18) (i := 1) dX8_lyingIn_18 rfl rfl ?_
    refine V_icmp_ne (pc := 19) (tgt := 25) dX8_lyingIn_19 (by decide) (fun c6 => ?_) (fun c6 => ?_)
    · rw [if_neg c6] at e
      exact V_pick [0, 1, 2, 3] rfl (r_X8_lyingIn_b25 v0 v1 v2 v3 h e kI kE31)
    · rw [if_pos c6] at e
      refine V_pick [0, 1, 2, 3] rfl ?_
      refine V_iinc (pc := 22) (i := 2) (u := v2 + (1 : Int32)) (lv' := [(2, .int (v2 + (1 : Int32))), (0, .ref v0), (1, .int v1), (3, .int v3)]) dX8_lyingIn_22 rfl rfl (by decide) rfl ?_
      exact V_pick [1, 2, 0, 3] rfl (r_X8_lyingIn_b25 v0 v1 (v2 + (1 : Int32)) v3 h e kI kE31)
set_option maxRecDepth 100000 in
def F_X8_lyingIn_b0 (v0 : Nat) (v1 : Int32) (h : Hp) : Option Int32 :=
  ob (iter (fun z : Int32 × Int32 => F_X8_lyingIn_l4 v0 v1 z.1 z.2 h) FU ((0 : Int32), (0 : Int32))) (fun w8 => some w8)
set_option maxHeartbeats 4000000 in
set_option maxRecDepth 100000 in
theorem r_X8_lyingIn_b0 (v0 : Nat) (v1 : Int32) (h : Hp) {x : Cx} {r : Int32} (e : F_X8_lyingIn_b0 v0 v1 h = some r) (hF : Fin9 M_X8_lyingIn x (some .int) (some (.int r)) h) : V M_X8_lyingIn x 0 0 [(0, .ref v0), (1, .int v1)] [] h 0 0 := by
  unfold F_X8_lyingIn_b0 at e
  refine V_iconst (pc := 0) (v := (0 : Int32)) dX8_lyingIn_0 (by decide) ?_
  refine V_istore_n (pc := 1) (i := 2) (lv' := [(2, .int (0 : Int32)), (0, .ref v0), (1, .int v1)]) dX8_lyingIn_1 rfl (by decide) rfl ?_
  refine V_iconst (pc := 2) (v := (0 : Int32)) dX8_lyingIn_2 (by decide) ?_
  refine V_istore_n (pc := 3) (i := 3) (lv' := [(3, .int (0 : Int32)), (2, .int (0 : Int32)), (0, .ref v0), (1, .int v1)]) dX8_lyingIn_3 rfl (by decide) rfl ?_
  refine V_pick [2, 3, 1, 0] rfl ?_
  obtain ⟨y9, g10, e⟩ := ob_some e
  refine iter_V (P := fun z : Int32 × Int32 => V M_X8_lyingIn x 0 4 [(0, .ref v0), (1, .int v1), (2, .int z.1), (3, .int z.2)] [] h 0 0) (E := fun z : Int32 => V M_X8_lyingIn x 0 31 [(2, .int z)] [] h 0 0) (fun z o e9 k1 k2 => r_X8_lyingIn_l4 v0 v1 z.1 z.2 h e9 (fun z hz9 => k1 z hz9) (fun z hz9 => k2 _ hz9)) _ _ _ g10 ?_
  clear g10
  obtain ⟨w8, rfl⟩ : ∃ q, q = y9 := ⟨_, rfl⟩
  replace e : (some w8) = some r := e
  show V M_X8_lyingIn x 0 31 [(2, .int w8)] [] h 0 0
  refine V_iload_n (pc := 31) (i := 2) dX8_lyingIn_31 rfl rfl ?_
  cases e
  exact V_iret (pc := 32) dX8_lyingIn_32 hF
def F_X8_lyingIn (v0 : Nat) (v1 : Int32) (h : Hp) : Option Int32 := F_X8_lyingIn_b0 v0 v1 h
theorem c_X8_lyingIn {l : Launch} (v0 : Nat) (v1 : Int32) (h : Hp) {r : Int32} (e : F_X8_lyingIn v0 v1 h = some r) : Ct l yX8_lyingIn M_X8_lyingIn (some .int) 0 [.ref v0, .int v1] h 0 0 (some (.int r)) h :=
  Ct_of rfl rfl (fun q => by cases q) (Nat.le_of_ble_eq_true rfl) (fun x _ hF => V_pick [0, 1] rfl (r_X8_lyingIn_b0 v0 v1 h e hF))
theorem dX8_lowest_0 : decode cX8_lowest 0 = .ok (.iconst 0, 1) := by decide +kernel
theorem dX8_lowest_1 : decode cX8_lowest 1 = .ok (.istore_n 2, 1) := by decide +kernel
theorem dX8_lowest_2 : decode cX8_lowest 2 = .ok (.iconst 0, 1) := by decide +kernel
theorem dX8_lowest_3 : decode cX8_lowest 3 = .ok (.istore_n 3, 1) := by decide +kernel
theorem dX8_lowest_4 : decode cX8_lowest 4 = .ok (.iload_n 3, 1) := by decide +kernel
theorem dX8_lowest_5 : decode cX8_lowest 5 = .ok (.aload_n 0, 1) := by decide +kernel
theorem dX8_lowest_6 : decode cX8_lowest 6 = .ok (.getfield 9, 3) := by decide +kernel
theorem dX8_lowest_9 : decode cX8_lowest 9 = .ok (.if_icmp .ge 45, 3) := by decide +kernel
theorem dX8_lowest_12 : decode cX8_lowest 12 = .ok (.aload_n 1, 1) := by decide +kernel
theorem dX8_lowest_13 : decode cX8_lowest 13 = .ok (.aload_n 0, 1) := by decide +kernel
theorem dX8_lowest_14 : decode cX8_lowest 14 = .ok (.getfield 22, 3) := by decide +kernel
theorem dX8_lowest_17 : decode cX8_lowest 17 = .ok (.iload_n 3, 1) := by decide +kernel
theorem dX8_lowest_18 : decode cX8_lowest 18 = .ok (.iaload, 1) := by decide +kernel
theorem dX8_lowest_19 : decode cX8_lowest 19 = .ok (.iaload, 1) := by decide +kernel
theorem dX8_lowest_20 : decode cX8_lowest 20 = .ok (.istore 4, 2) := by decide +kernel
theorem dX8_lowest_22 : decode cX8_lowest 22 = .ok (.iload_n 2, 1) := by decide +kernel
theorem dX8_lowest_23 : decode cX8_lowest 23 = .ok (.iload 4, 2) := by decide +kernel
theorem dX8_lowest_25 : decode cX8_lowest 25 = .ok (.iload 4, 2) := by decide +kernel
theorem dX8_lowest_27 : decode cX8_lowest 27 = .ok (.ifCond .ge 12, 3) := by decide +kernel
theorem dX8_lowest_30 : decode cX8_lowest 30 = .ok (.aload_n 0, 1) := by decide +kernel
theorem dX8_lowest_31 : decode cX8_lowest 31 = .ok (.getfield 19, 3) := by decide +kernel
theorem dX8_lowest_34 : decode cX8_lowest 34 = .ok (.iload_n 3, 1) := by decide +kernel
theorem dX8_lowest_35 : decode cX8_lowest 35 = .ok (.iaload, 1) := by decide +kernel
theorem dX8_lowest_36 : decode cX8_lowest 36 = .ok (.goto 9, 3) := by decide +kernel
theorem dX8_lowest_39 : decode cX8_lowest 39 = .ok (.aload_n 0, 1) := by decide +kernel
theorem dX8_lowest_40 : decode cX8_lowest 40 = .ok (.getfield 15, 3) := by decide +kernel
theorem dX8_lowest_43 : decode cX8_lowest 43 = .ok (.iload_n 3, 1) := by decide +kernel
theorem dX8_lowest_44 : decode cX8_lowest 44 = .ok (.iaload, 1) := by decide +kernel
theorem dX8_lowest_45 : decode cX8_lowest 45 = .ok (.imul, 1) := by decide +kernel
theorem dX8_lowest_46 : decode cX8_lowest 46 = .ok (.iadd, 1) := by decide +kernel
theorem dX8_lowest_47 : decode cX8_lowest 47 = .ok (.istore_n 2, 1) := by decide +kernel
theorem dX8_lowest_48 : decode cX8_lowest 48 = .ok (.iinc 3 1, 3) := by decide +kernel
theorem dX8_lowest_51 : decode cX8_lowest 51 = .ok (.goto (-47), 3) := by decide +kernel
theorem dX8_lowest_54 : decode cX8_lowest 54 = .ok (.iload_n 2, 1) := by decide +kernel
theorem dX8_lowest_55 : decode cX8_lowest 55 = .ok (.ireturn, 1) := by decide +kernel
set_option maxRecDepth 100000 in
def F_X8_lowest_b45 (v0 : Nat) (v1 : Nat) (v3 : Int32) (t0 : Int32) (t1 : Int32) (t2 : Int32) (h : Hp) : Option ((Int32 × Int32) ⊕ Int32) :=
  some (.inl (t0 + (t1 * t2), v3 + (1 : Int32)))
set_option maxHeartbeats 4000000 in
set_option maxRecDepth 100000 in
theorem r_X8_lowest_b45 (v0 : Nat) (v1 : Nat) (v3 : Int32) (t0 : Int32) (t1 : Int32) (t2 : Int32) (h : Hp) {x : Cx} {o : ((Int32 × Int32) ⊕ Int32)} (e : F_X8_lowest_b45 v0 v1 v3 t0 t1 t2 h = some o) (kI : ∀ z, o = .inl z → V M_X8_lowest x 0 4 [(0, .ref v0), (1, .ref v1), (2, .int z.1), (3, .int z.2)] [] h 0 0) (kE54 : ∀ z : Int32, o = .inr z → V M_X8_lowest x 0 54 [(2, .int z)] [] h 0 0) : V M_X8_lowest x 0 45 [(0, .ref v0), (1, .ref v1), (3, .int v3)] [.int t2, .int t1, .int t0] h 0 0 := by
  unfold F_X8_lowest_b45 at e
  refine V_imul (pc := 45) dX8_lowest_45 ?_
  refine V_iadd (pc := 46) dX8_lowest_46 ?_
  refine V_istore_n (pc := 47) (i := 2) (lv' := [(2, .int (t0 + (t1 * t2))), (0, .ref v0), (1, .ref v1), (3, .int v3)]) dX8_lowest_47 rfl (by decide) rfl ?_
  refine V_iinc (pc := 48) (i := 3) (u := v3 + (1 : Int32)) (lv' := [(3, .int (v3 + (1 : Int32))), (2, .int (t0 + (t1 * t2))), (0, .ref v0), (1, .ref v1)]) dX8_lowest_48 rfl rfl (by decide) rfl ?_
  refine V_goto (pc := 51) (tgt := 4) dX8_lowest_51 (by decide) ?_
  cases e
  exact V_pick [2, 3, 1, 0] rfl (kI _ rfl)
set_option maxRecDepth 100000 in
def F_X8_lowest_l4 (v0 : Nat) (v1 : Nat) (v2 : Int32) (v3 : Int32) (h : Hp) : Option ((Int32 × Int32) ⊕ Int32) :=
  gd (decide (kd h v0 = 7)) <| (if (zI h v0 0) ≤ v3 then some (.inr v2) else ob (zR h v0 3) fun q2 => gd (decide (kd h q2 = 13)) <| gd (ix v3 (zl h q2)) <| gd (decide (kd h v1 = 13)) <| gd (ix (zI h q2 (v3).toNatClampNeg) (zl h v1)) <| (if 0 ≤ (zI h v1 (zI h q2 (v3).toNatClampNeg).toNatClampNeg) then ob (zR h v0 1) fun q8 => gd (decide (kd h q8 = 13)) <| gd (ix v3 (zl h q8)) <| F_X8_lowest_b45 v0 v1 v3 v2 (zI h v1 (zI h q2 (v3).toNatClampNeg).toNatClampNeg) (zI h q8 (v3).toNatClampNeg) h else ob (zR h v0 2) fun q12 => gd (decide (kd h q12 = 13)) <| gd (ix v3 (zl h q12)) <| F_X8_lowest_b45 v0 v1 v3 v2 (zI h v1 (zI h q2 (v3).toNatClampNeg).toNatClampNeg) (zI h q12 (v3).toNatClampNeg) h))
set_option maxHeartbeats 4000000 in
set_option maxRecDepth 100000 in
theorem r_X8_lowest_l4 (v0 : Nat) (v1 : Nat) (v2 : Int32) (v3 : Int32) (h : Hp) {x : Cx} {o : ((Int32 × Int32) ⊕ Int32)} (e : F_X8_lowest_l4 v0 v1 v2 v3 h = some o) (kI : ∀ z, o = .inl z → V M_X8_lowest x 0 4 [(0, .ref v0), (1, .ref v1), (2, .int z.1), (3, .int z.2)] [] h 0 0) (kE54 : ∀ z : Int32, o = .inr z → V M_X8_lowest x 0 54 [(2, .int z)] [] h 0 0) : V M_X8_lowest x 0 4 [(0, .ref v0), (1, .ref v1), (2, .int v2), (3, .int v3)] [] h 0 0 := by
  unfold F_X8_lowest_l4 at e
  refine V_iload_n (pc := 4) (i := 3) dX8_lowest_4 rfl rfl ?_
  refine V_aload_n (pc := 5) (i := 0) dX8_lowest_5 rfl rfl ?_
  obtain ⟨g1, e⟩ := gd_some e
  refine V_getI (pc := 6) (ci := 7) (k := 0) dX8_lowest_6 fl_X8_9 rfl (of_decide_eq_true g1) ?_
  refine V_icmp_ge (pc := 9) (tgt := 54) dX8_lowest_9 (by decide) (fun c17 => ?_) (fun c17 => ?_)
  · rw [if_pos c17] at e
    cases e
    exact V_pick [2] rfl (kE54 _ rfl)
  · rw [if_neg c17] at e
    refine V_pick [0, 1, 2, 3] rfl ?_
    refine V_aload_n (pc := 12) (i := 1) dX8_lowest_12 rfl rfl ?_
    refine V_aload_n (pc := 13) (i := 0) dX8_lowest_13 rfl rfl ?_
    obtain ⟨q2, g3, e⟩ := ob_some e
    refine V_getR (pc := 14) (ci := 7) (k := 3) (b := q2) dX8_lowest_14 fl_X8_22 rfl (of_decide_eq_true g1) g3 ?_
    refine V_iload_n (pc := 17) (i := 3) dX8_lowest_17 rfl rfl ?_
    obtain ⟨g4, e⟩ := gd_some e
    obtain ⟨g5, e⟩ := gd_some e
    refine V_iald (pc := 18) dX8_lowest_18 (of_decide_eq_true g4) (ix_in g5) ?_
    obtain ⟨g6, e⟩ := gd_some e
    obtain ⟨g7, e⟩ := gd_some e
    refine V_iald (pc := 19) dX8_lowest_19 (of_decide_eq_true g6) (ix_in g7) ?_
    refine V_istore (pc := 20) (i := 4) (lv' := [(4, .int (zI h v1 (zI h q2 (v3).toNatClampNeg).toNatClampNeg)), (0, .ref v0), (1, .ref v1), (2, .int v2), (3, .int v3)]) dX8_lowest_20 (by decide) rfl ?_
    refine V_iload_n (pc := 22) (i := 2) dX8_lowest_22 rfl rfl ?_
    refine V_iload (pc := 23) (i := 4) dX8_lowest_23 rfl ?_
    refine V_iload (pc := 25) (i := 4) dX8_lowest_25 rfl ?_
    refine V_if_ge (pc := 27) (tgt := 39) dX8_lowest_27 (by decide) (fun c16 => ?_) (fun c16 => ?_)
    · rw [if_pos c16] at e
      refine V_pick [1, 2, 4] rfl ?_
      refine V_aload_n (pc := 39) (i := 0) dX8_lowest_39 rfl rfl ?_
      obtain ⟨q8, g9, e⟩ := ob_some e
      refine V_getR (pc := 40) (ci := 7) (k := 1) (b := q8) dX8_lowest_40 fl_X8_15 rfl (of_decide_eq_true g1) g9 ?_
      refine V_iload_n (pc := 43) (i := 3) dX8_lowest_43 rfl rfl ?_
      obtain ⟨g10, e⟩ := gd_some e
      obtain ⟨g11, e⟩ := gd_some e
      refine V_iald (pc := 44) dX8_lowest_44 (of_decide_eq_true g10) (ix_in g11) ?_
      exact V_pick [0, 1, 2] rfl (r_X8_lowest_b45 v0 v1 v3 v2 (zI h v1 (zI h q2 (v3).toNatClampNeg).toNatClampNeg) (zI h q8 (v3).toNatClampNeg) h e kI kE54)
    · rw [if_neg c16] at e
      refine V_pick [1, 2, 4] rfl ?_
      refine V_aload_n (pc := 30) (i := 0) dX8_lowest_30 rfl rfl ?_
      obtain ⟨q12, g13, e⟩ := ob_some e
      refine V_getR (pc := 31) (ci := 7) (k := 2) (b := q12) dX8_lowest_31 fl_X8_19 rfl (of_decide_eq_true g1) g13 ?_
      refine V_iload_n (pc := 34) (i := 3) dX8_lowest_34 rfl rfl ?_
      obtain ⟨g14, e⟩ := gd_some e
      obtain ⟨g15, e⟩ := gd_some e
      refine V_iald (pc := 35) dX8_lowest_35 (of_decide_eq_true g14) (ix_in g15) ?_
      refine V_goto (pc := 36) (tgt := 45) dX8_lowest_36 (by decide) ?_
      exact V_pick [0, 1, 2] rfl (r_X8_lowest_b45 v0 v1 v3 v2 (zI h v1 (zI h q2 (v3).toNatClampNeg).toNatClampNeg) (zI h q12 (v3).toNatClampNeg) h e kI kE54)
set_option maxRecDepth 100000 in
def F_X8_lowest_b0 (v0 : Nat) (v1 : Nat) (h : Hp) : Option Int32 :=
  ob (iter (fun z : Int32 × Int32 => F_X8_lowest_l4 v0 v1 z.1 z.2 h) FU ((0 : Int32), (0 : Int32))) (fun w18 => some w18)
set_option maxHeartbeats 4000000 in
set_option maxRecDepth 100000 in
theorem r_X8_lowest_b0 (v0 : Nat) (v1 : Nat) (h : Hp) {x : Cx} {r : Int32} (e : F_X8_lowest_b0 v0 v1 h = some r) (hF : Fin9 M_X8_lowest x (some .int) (some (.int r)) h) : V M_X8_lowest x 0 0 [(0, .ref v0), (1, .ref v1)] [] h 0 0 := by
  unfold F_X8_lowest_b0 at e
  refine V_iconst (pc := 0) (v := (0 : Int32)) dX8_lowest_0 (by decide) ?_
  refine V_istore_n (pc := 1) (i := 2) (lv' := [(2, .int (0 : Int32)), (0, .ref v0), (1, .ref v1)]) dX8_lowest_1 rfl (by decide) rfl ?_
  refine V_iconst (pc := 2) (v := (0 : Int32)) dX8_lowest_2 (by decide) ?_
  refine V_istore_n (pc := 3) (i := 3) (lv' := [(3, .int (0 : Int32)), (2, .int (0 : Int32)), (0, .ref v0), (1, .ref v1)]) dX8_lowest_3 rfl (by decide) rfl ?_
  refine V_pick [2, 3, 1, 0] rfl ?_
  obtain ⟨y19, g20, e⟩ := ob_some e
  refine iter_V (P := fun z : Int32 × Int32 => V M_X8_lowest x 0 4 [(0, .ref v0), (1, .ref v1), (2, .int z.1), (3, .int z.2)] [] h 0 0) (E := fun z : Int32 => V M_X8_lowest x 0 54 [(2, .int z)] [] h 0 0) (fun z o e9 k1 k2 => r_X8_lowest_l4 v0 v1 z.1 z.2 h e9 (fun z hz9 => k1 z hz9) (fun z hz9 => k2 _ hz9)) _ _ _ g20 ?_
  clear g20
  obtain ⟨w18, rfl⟩ : ∃ q, q = y19 := ⟨_, rfl⟩
  replace e : (some w18) = some r := e
  show V M_X8_lowest x 0 54 [(2, .int w18)] [] h 0 0
  refine V_iload_n (pc := 54) (i := 2) dX8_lowest_54 rfl rfl ?_
  cases e
  exact V_iret (pc := 55) dX8_lowest_55 hF
def F_X8_lowest (v0 : Nat) (v1 : Nat) (h : Hp) : Option Int32 := F_X8_lowest_b0 v0 v1 h
theorem c_X8_lowest {l : Launch} (v0 : Nat) (v1 : Nat) (h : Hp) {r : Int32} (e : F_X8_lowest v0 v1 h = some r) : Ct l yX8_lowest M_X8_lowest (some .int) 0 [.ref v0, .ref v1] h 0 0 (some (.int r)) h :=
  Ct_of rfl rfl (fun q => by cases q) (Nat.le_of_ble_eq_true rfl) (fun x _ hF => V_pick [0, 1] rfl (r_X8_lowest_b0 v0 v1 h e hF))
theorem dX8_highest_0 : decode cX8_highest 0 = .ok (.iconst 0, 1) := by decide +kernel
theorem dX8_highest_1 : decode cX8_highest 1 = .ok (.istore_n 2, 1) := by decide +kernel
theorem dX8_highest_2 : decode cX8_highest 2 = .ok (.iconst 0, 1) := by decide +kernel
theorem dX8_highest_3 : decode cX8_highest 3 = .ok (.istore_n 3, 1) := by decide +kernel
theorem dX8_highest_4 : decode cX8_highest 4 = .ok (.iload_n 3, 1) := by decide +kernel
theorem dX8_highest_5 : decode cX8_highest 5 = .ok (.aload_n 0, 1) := by decide +kernel
theorem dX8_highest_6 : decode cX8_highest 6 = .ok (.getfield 9, 3) := by decide +kernel
theorem dX8_highest_9 : decode cX8_highest 9 = .ok (.if_icmp .ge 45, 3) := by decide +kernel
theorem dX8_highest_12 : decode cX8_highest 12 = .ok (.aload_n 1, 1) := by decide +kernel
theorem dX8_highest_13 : decode cX8_highest 13 = .ok (.aload_n 0, 1) := by decide +kernel
theorem dX8_highest_14 : decode cX8_highest 14 = .ok (.getfield 22, 3) := by decide +kernel
theorem dX8_highest_17 : decode cX8_highest 17 = .ok (.iload_n 3, 1) := by decide +kernel
theorem dX8_highest_18 : decode cX8_highest 18 = .ok (.iaload, 1) := by decide +kernel
theorem dX8_highest_19 : decode cX8_highest 19 = .ok (.iaload, 1) := by decide +kernel
theorem dX8_highest_20 : decode cX8_highest 20 = .ok (.istore 4, 2) := by decide +kernel
theorem dX8_highest_22 : decode cX8_highest 22 = .ok (.iload_n 2, 1) := by decide +kernel
theorem dX8_highest_23 : decode cX8_highest 23 = .ok (.iload 4, 2) := by decide +kernel
theorem dX8_highest_25 : decode cX8_highest 25 = .ok (.iload 4, 2) := by decide +kernel
theorem dX8_highest_27 : decode cX8_highest 27 = .ok (.ifCond .ge 12, 3) := by decide +kernel
theorem dX8_highest_30 : decode cX8_highest 30 = .ok (.aload_n 0, 1) := by decide +kernel
theorem dX8_highest_31 : decode cX8_highest 31 = .ok (.getfield 15, 3) := by decide +kernel
theorem dX8_highest_34 : decode cX8_highest 34 = .ok (.iload_n 3, 1) := by decide +kernel
theorem dX8_highest_35 : decode cX8_highest 35 = .ok (.iaload, 1) := by decide +kernel
theorem dX8_highest_36 : decode cX8_highest 36 = .ok (.goto 9, 3) := by decide +kernel
theorem dX8_highest_39 : decode cX8_highest 39 = .ok (.aload_n 0, 1) := by decide +kernel
theorem dX8_highest_40 : decode cX8_highest 40 = .ok (.getfield 19, 3) := by decide +kernel
theorem dX8_highest_43 : decode cX8_highest 43 = .ok (.iload_n 3, 1) := by decide +kernel
theorem dX8_highest_44 : decode cX8_highest 44 = .ok (.iaload, 1) := by decide +kernel
theorem dX8_highest_45 : decode cX8_highest 45 = .ok (.imul, 1) := by decide +kernel
theorem dX8_highest_46 : decode cX8_highest 46 = .ok (.iadd, 1) := by decide +kernel
theorem dX8_highest_47 : decode cX8_highest 47 = .ok (.istore_n 2, 1) := by decide +kernel
theorem dX8_highest_48 : decode cX8_highest 48 = .ok (.iinc 3 1, 3) := by decide +kernel
theorem dX8_highest_51 : decode cX8_highest 51 = .ok (.goto (-47), 3) := by decide +kernel
theorem dX8_highest_54 : decode cX8_highest 54 = .ok (.iload_n 2, 1) := by decide +kernel
theorem dX8_highest_55 : decode cX8_highest 55 = .ok (.ireturn, 1) := by decide +kernel
set_option maxRecDepth 100000 in
def F_X8_highest_b45 (v0 : Nat) (v1 : Nat) (v3 : Int32) (t0 : Int32) (t1 : Int32) (t2 : Int32) (h : Hp) : Option ((Int32 × Int32) ⊕ Int32) :=
  some (.inl (t0 + (t1 * t2), v3 + (1 : Int32)))
set_option maxHeartbeats 4000000 in
set_option maxRecDepth 100000 in
theorem r_X8_highest_b45 (v0 : Nat) (v1 : Nat) (v3 : Int32) (t0 : Int32) (t1 : Int32) (t2 : Int32) (h : Hp) {x : Cx} {o : ((Int32 × Int32) ⊕ Int32)} (e : F_X8_highest_b45 v0 v1 v3 t0 t1 t2 h = some o) (kI : ∀ z, o = .inl z → V M_X8_highest x 0 4 [(0, .ref v0), (1, .ref v1), (2, .int z.1), (3, .int z.2)] [] h 0 0) (kE54 : ∀ z : Int32, o = .inr z → V M_X8_highest x 0 54 [(2, .int z)] [] h 0 0) : V M_X8_highest x 0 45 [(0, .ref v0), (1, .ref v1), (3, .int v3)] [.int t2, .int t1, .int t0] h 0 0 := by
  unfold F_X8_highest_b45 at e
  refine V_imul (pc := 45) dX8_highest_45 ?_
  refine V_iadd (pc := 46) dX8_highest_46 ?_
  refine V_istore_n (pc := 47) (i := 2) (lv' := [(2, .int (t0 + (t1 * t2))), (0, .ref v0), (1, .ref v1), (3, .int v3)]) dX8_highest_47 rfl (by decide) rfl ?_
  refine V_iinc (pc := 48) (i := 3) (u := v3 + (1 : Int32)) (lv' := [(3, .int (v3 + (1 : Int32))), (2, .int (t0 + (t1 * t2))), (0, .ref v0), (1, .ref v1)]) dX8_highest_48 rfl rfl (by decide) rfl ?_
  refine V_goto (pc := 51) (tgt := 4) dX8_highest_51 (by decide) ?_
  cases e
  exact V_pick [2, 3, 1, 0] rfl (kI _ rfl)
set_option maxRecDepth 100000 in
def F_X8_highest_l4 (v0 : Nat) (v1 : Nat) (v2 : Int32) (v3 : Int32) (h : Hp) : Option ((Int32 × Int32) ⊕ Int32) :=
  gd (decide (kd h v0 = 7)) <| (if (zI h v0 0) ≤ v3 then some (.inr v2) else ob (zR h v0 3) fun q2 => gd (decide (kd h q2 = 13)) <| gd (ix v3 (zl h q2)) <| gd (decide (kd h v1 = 13)) <| gd (ix (zI h q2 (v3).toNatClampNeg) (zl h v1)) <| (if 0 ≤ (zI h v1 (zI h q2 (v3).toNatClampNeg).toNatClampNeg) then ob (zR h v0 2) fun q8 => gd (decide (kd h q8 = 13)) <| gd (ix v3 (zl h q8)) <| F_X8_highest_b45 v0 v1 v3 v2 (zI h v1 (zI h q2 (v3).toNatClampNeg).toNatClampNeg) (zI h q8 (v3).toNatClampNeg) h else ob (zR h v0 1) fun q12 => gd (decide (kd h q12 = 13)) <| gd (ix v3 (zl h q12)) <| F_X8_highest_b45 v0 v1 v3 v2 (zI h v1 (zI h q2 (v3).toNatClampNeg).toNatClampNeg) (zI h q12 (v3).toNatClampNeg) h))
set_option maxHeartbeats 4000000 in
set_option maxRecDepth 100000 in
theorem r_X8_highest_l4 (v0 : Nat) (v1 : Nat) (v2 : Int32) (v3 : Int32) (h : Hp) {x : Cx} {o : ((Int32 × Int32) ⊕ Int32)} (e : F_X8_highest_l4 v0 v1 v2 v3 h = some o) (kI : ∀ z, o = .inl z → V M_X8_highest x 0 4 [(0, .ref v0), (1, .ref v1), (2, .int z.1), (3, .int z.2)] [] h 0 0) (kE54 : ∀ z : Int32, o = .inr z → V M_X8_highest x 0 54 [(2, .int z)] [] h 0 0) : V M_X8_highest x 0 4 [(0, .ref v0), (1, .ref v1), (2, .int v2), (3, .int v3)] [] h 0 0 := by
  unfold F_X8_highest_l4 at e
  refine V_iload_n (pc := 4) (i := 3) dX8_highest_4 rfl rfl ?_
  refine V_aload_n (pc := 5) (i := 0) dX8_highest_5 rfl rfl ?_
  obtain ⟨g1, e⟩ := gd_some e
  refine V_getI (pc := 6) (ci := 7) (k := 0) dX8_highest_6 fl_X8_9 rfl (of_decide_eq_true g1) ?_
  refine V_icmp_ge (pc := 9) (tgt := 54) dX8_highest_9 (by decide) (fun c17 => ?_) (fun c17 => ?_)
  · rw [if_pos c17] at e
    cases e
    exact V_pick [2] rfl (kE54 _ rfl)
  · rw [if_neg c17] at e
    refine V_pick [0, 1, 2, 3] rfl ?_
    refine V_aload_n (pc := 12) (i := 1) dX8_highest_12 rfl rfl ?_
    refine V_aload_n (pc := 13) (i := 0) dX8_highest_13 rfl rfl ?_
    obtain ⟨q2, g3, e⟩ := ob_some e
    refine V_getR (pc := 14) (ci := 7) (k := 3) (b := q2) dX8_highest_14 fl_X8_22 rfl (of_decide_eq_true g1) g3 ?_
    refine V_iload_n (pc := 17) (i := 3) dX8_highest_17 rfl rfl ?_
    obtain ⟨g4, e⟩ := gd_some e
    obtain ⟨g5, e⟩ := gd_some e
    refine V_iald (pc := 18) dX8_highest_18 (of_decide_eq_true g4) (ix_in g5) ?_
    obtain ⟨g6, e⟩ := gd_some e
    obtain ⟨g7, e⟩ := gd_some e
    refine V_iald (pc := 19) dX8_highest_19 (of_decide_eq_true g6) (ix_in g7) ?_
    refine V_istore (pc := 20) (i := 4) (lv' := [(4, .int (zI h v1 (zI h q2 (v3).toNatClampNeg).toNatClampNeg)), (0, .ref v0), (1, .ref v1), (2, .int v2), (3, .int v3)]) dX8_highest_20 (by decide) rfl ?_
    refine V_iload_n (pc := 22) (i := 2) dX8_highest_22 rfl rfl ?_
    refine V_iload (pc := 23) (i := 4) dX8_highest_23 rfl ?_
    refine V_iload (pc := 25) (i := 4) dX8_highest_25 rfl ?_
    refine V_if_ge (pc := 27) (tgt := 39) dX8_highest_27 (by decide) (fun c16 => ?_) (fun c16 => ?_)
    · rw [if_pos c16] at e
      refine V_pick [1, 2, 4] rfl ?_
      refine V_aload_n (pc := 39) (i := 0) dX8_highest_39 rfl rfl ?_
      obtain ⟨q8, g9, e⟩ := ob_some e
      refine V_getR (pc := 40) (ci := 7) (k := 2) (b := q8) dX8_highest_40 fl_X8_19 rfl (of_decide_eq_true g1) g9 ?_
      refine V_iload_n (pc := 43) (i := 3) dX8_highest_43 rfl rfl ?_
      obtain ⟨g10, e⟩ := gd_some e
      obtain ⟨g11, e⟩ := gd_some e
      refine V_iald (pc := 44) dX8_highest_44 (of_decide_eq_true g10) (ix_in g11) ?_
      exact V_pick [0, 1, 2] rfl (r_X8_highest_b45 v0 v1 v3 v2 (zI h v1 (zI h q2 (v3).toNatClampNeg).toNatClampNeg) (zI h q8 (v3).toNatClampNeg) h e kI kE54)
    · rw [if_neg c16] at e
      refine V_pick [1, 2, 4] rfl ?_
      refine V_aload_n (pc := 30) (i := 0) dX8_highest_30 rfl rfl ?_
      obtain ⟨q12, g13, e⟩ := ob_some e
      refine V_getR (pc := 31) (ci := 7) (k := 1) (b := q12) dX8_highest_31 fl_X8_15 rfl (of_decide_eq_true g1) g13 ?_
      refine V_iload_n (pc := 34) (i := 3) dX8_highest_34 rfl rfl ?_
      obtain ⟨g14, e⟩ := gd_some e
      obtain ⟨g15, e⟩ := gd_some e
      refine V_iald (pc := 35) dX8_highest_35 (of_decide_eq_true g14) (ix_in g15) ?_
      refine V_goto (pc := 36) (tgt := 45) dX8_highest_36 (by decide) ?_
      exact V_pick [0, 1, 2] rfl (r_X8_highest_b45 v0 v1 v3 v2 (zI h v1 (zI h q2 (v3).toNatClampNeg).toNatClampNeg) (zI h q12 (v3).toNatClampNeg) h e kI kE54)
set_option maxRecDepth 100000 in
def F_X8_highest_b0 (v0 : Nat) (v1 : Nat) (h : Hp) : Option Int32 :=
  ob (iter (fun z : Int32 × Int32 => F_X8_highest_l4 v0 v1 z.1 z.2 h) FU ((0 : Int32), (0 : Int32))) (fun w18 => some w18)
set_option maxHeartbeats 4000000 in
set_option maxRecDepth 100000 in
theorem r_X8_highest_b0 (v0 : Nat) (v1 : Nat) (h : Hp) {x : Cx} {r : Int32} (e : F_X8_highest_b0 v0 v1 h = some r) (hF : Fin9 M_X8_highest x (some .int) (some (.int r)) h) : V M_X8_highest x 0 0 [(0, .ref v0), (1, .ref v1)] [] h 0 0 := by
  unfold F_X8_highest_b0 at e
  refine V_iconst (pc := 0) (v := (0 : Int32)) dX8_highest_0 (by decide) ?_
  refine V_istore_n (pc := 1) (i := 2) (lv' := [(2, .int (0 : Int32)), (0, .ref v0), (1, .ref v1)]) dX8_highest_1 rfl (by decide) rfl ?_
  refine V_iconst (pc := 2) (v := (0 : Int32)) dX8_highest_2 (by decide) ?_
  refine V_istore_n (pc := 3) (i := 3) (lv' := [(3, .int (0 : Int32)), (2, .int (0 : Int32)), (0, .ref v0), (1, .ref v1)]) dX8_highest_3 rfl (by decide) rfl ?_
  refine V_pick [2, 3, 1, 0] rfl ?_
  obtain ⟨y19, g20, e⟩ := ob_some e
  refine iter_V (P := fun z : Int32 × Int32 => V M_X8_highest x 0 4 [(0, .ref v0), (1, .ref v1), (2, .int z.1), (3, .int z.2)] [] h 0 0) (E := fun z : Int32 => V M_X8_highest x 0 54 [(2, .int z)] [] h 0 0) (fun z o e9 k1 k2 => r_X8_highest_l4 v0 v1 z.1 z.2 h e9 (fun z hz9 => k1 z hz9) (fun z hz9 => k2 _ hz9)) _ _ _ g20 ?_
  clear g20
  obtain ⟨w18, rfl⟩ : ∃ q, q = y19 := ⟨_, rfl⟩
  replace e : (some w18) = some r := e
  show V M_X8_highest x 0 54 [(2, .int w18)] [] h 0 0
  refine V_iload_n (pc := 54) (i := 2) dX8_highest_54 rfl rfl ?_
  cases e
  exact V_iret (pc := 55) dX8_highest_55 hF
def F_X8_highest (v0 : Nat) (v1 : Nat) (h : Hp) : Option Int32 := F_X8_highest_b0 v0 v1 h
theorem c_X8_highest {l : Launch} (v0 : Nat) (v1 : Nat) (h : Hp) {r : Int32} (e : F_X8_highest v0 v1 h = some r) : Ct l yX8_highest M_X8_highest (some .int) 0 [.ref v0, .ref v1] h 0 0 (some (.int r)) h :=
  Ct_of rfl rfl (fun q => by cases q) (Nat.le_of_ble_eq_true rfl) (fun x _ hF => V_pick [0, 1] rfl (r_X8_highest_b0 v0 v1 h e hF))
theorem dX8_leastBeside_0 : decode cX8_leastBeside 0 = .ok (.iconst 0, 1) := by decide +kernel
theorem dX8_leastBeside_1 : decode cX8_leastBeside 1 = .ok (.istore_n 3, 1) := by decide +kernel
theorem dX8_leastBeside_2 : decode cX8_leastBeside 2 = .ok (.iconst 0, 1) := by decide +kernel
theorem dX8_leastBeside_3 : decode cX8_leastBeside 3 = .ok (.istore 4, 2) := by decide +kernel
theorem dX8_leastBeside_5 : decode cX8_leastBeside 5 = .ok (.iload 4, 2) := by decide +kernel
theorem dX8_leastBeside_7 : decode cX8_leastBeside 7 = .ok (.aload_n 0, 1) := by decide +kernel
theorem dX8_leastBeside_8 : decode cX8_leastBeside 8 = .ok (.getfield 9, 3) := by decide +kernel
theorem dX8_leastBeside_11 : decode cX8_leastBeside 11 = .ok (.if_icmp .ge 35, 3) := by decide +kernel
theorem dX8_leastBeside_14 : decode cX8_leastBeside 14 = .ok (.iload 4, 2) := by decide +kernel
theorem dX8_leastBeside_16 : decode cX8_leastBeside 16 = .ok (.iload_n 1, 1) := by decide +kernel
theorem dX8_leastBeside_17 : decode cX8_leastBeside 17 = .ok (.if_icmp .eq 23, 3) := by decide +kernel
theorem dX8_leastBeside_20 : decode cX8_leastBeside 20 = .ok (.iload_n 3, 1) := by decide +kernel
theorem dX8_leastBeside_21 : decode cX8_leastBeside 21 = .ok (.aload_n 0, 1) := by decide +kernel
theorem dX8_leastBeside_22 : decode cX8_leastBeside 22 = .ok (.getfield 15, 3) := by decide +kernel
theorem dX8_leastBeside_25 : decode cX8_leastBeside 25 = .ok (.iload 4, 2) := by decide +kernel
theorem dX8_leastBeside_27 : decode cX8_leastBeside 27 = .ok (.iaload, 1) := by decide +kernel
theorem dX8_leastBeside_28 : decode cX8_leastBeside 28 = .ok (.aload_n 2, 1) := by decide +kernel
theorem dX8_leastBeside_29 : decode cX8_leastBeside 29 = .ok (.aload_n 0, 1) := by decide +kernel
theorem dX8_leastBeside_30 : decode cX8_leastBeside 30 = .ok (.getfield 22, 3) := by decide +kernel
theorem dX8_leastBeside_33 : decode cX8_leastBeside 33 = .ok (.iload 4, 2) := by decide +kernel
theorem dX8_leastBeside_35 : decode cX8_leastBeside 35 = .ok (.iaload, 1) := by decide +kernel
theorem dX8_leastBeside_36 : decode cX8_leastBeside 36 = .ok (.iaload, 1) := by decide +kernel
theorem dX8_leastBeside_37 : decode cX8_leastBeside 37 = .ok (.imul, 1) := by decide +kernel
theorem dX8_leastBeside_38 : decode cX8_leastBeside 38 = .ok (.iadd, 1) := by decide +kernel
theorem dX8_leastBeside_39 : decode cX8_leastBeside 39 = .ok (.istore_n 3, 1) := by decide +kernel
theorem dX8_leastBeside_40 : decode cX8_leastBeside 40 = .ok (.iinc 4 1, 3) := by decide +kernel
theorem dX8_leastBeside_43 : decode cX8_leastBeside 43 = .ok (.goto (-38), 3) := by decide +kernel
theorem dX8_leastBeside_46 : decode cX8_leastBeside 46 = .ok (.iload_n 3, 1) := by decide +kernel
theorem dX8_leastBeside_47 : decode cX8_leastBeside 47 = .ok (.ireturn, 1) := by decide +kernel
set_option maxRecDepth 100000 in
def F_X8_leastBeside_b40 (v0 : Nat) (v1 : Int32) (v2 : Nat) (v3 : Int32) (v4 : Int32) (h : Hp) : Option ((Int32 × Int32) ⊕ Int32) :=
  some (.inl (v3, v4 + (1 : Int32)))
set_option maxHeartbeats 4000000 in
set_option maxRecDepth 100000 in
theorem r_X8_leastBeside_b40 (v0 : Nat) (v1 : Int32) (v2 : Nat) (v3 : Int32) (v4 : Int32) (h : Hp) {x : Cx} {o : ((Int32 × Int32) ⊕ Int32)} (e : F_X8_leastBeside_b40 v0 v1 v2 v3 v4 h = some o) (kI : ∀ z, o = .inl z → V M_X8_leastBeside x 0 5 [(0, .ref v0), (1, .int v1), (2, .ref v2), (3, .int z.1), (4, .int z.2)] [] h 0 0) (kE46 : ∀ z : Int32, o = .inr z → V M_X8_leastBeside x 0 46 [(3, .int z)] [] h 0 0) : V M_X8_leastBeside x 0 40 [(0, .ref v0), (1, .int v1), (2, .ref v2), (3, .int v3), (4, .int v4)] [] h 0 0 := by
  unfold F_X8_leastBeside_b40 at e
  refine V_iinc (pc := 40) (i := 4) (u := v4 + (1 : Int32)) (lv' := [(4, .int (v4 + (1 : Int32))), (0, .ref v0), (1, .int v1), (2, .ref v2), (3, .int v3)]) dX8_leastBeside_40 rfl rfl (by decide) rfl ?_
  refine V_goto (pc := 43) (tgt := 5) dX8_leastBeside_43 (by decide) ?_
  cases e
  exact V_pick [1, 2, 3, 4, 0] rfl (kI _ rfl)
set_option maxRecDepth 100000 in
def F_X8_leastBeside_l5 (v0 : Nat) (v1 : Int32) (v2 : Nat) (v3 : Int32) (v4 : Int32) (h : Hp) : Option ((Int32 × Int32) ⊕ Int32) :=
  gd (decide (kd h v0 = 7)) <| (if (zI h v0 0) ≤ v4 then some (.inr v3) else (if v4 = v1 then F_X8_leastBeside_b40 v0 v1 v2 v3 v4 h else ob (zR h v0 1) fun q2 => gd (decide (kd h q2 = 13)) <| gd (ix v4 (zl h q2)) <| ob (zR h v0 3) fun q6 => gd (decide (kd h q6 = 13)) <| gd (ix v4 (zl h q6)) <| gd (decide (kd h v2 = 13)) <| gd (ix (zI h q6 (v4).toNatClampNeg) (zl h v2)) <| F_X8_leastBeside_b40 v0 v1 v2 (v3 + ((zI h q2 (v4).toNatClampNeg) * (zI h v2 (zI h q6 (v4).toNatClampNeg).toNatClampNeg))) v4 h))
set_option maxHeartbeats 4000000 in
set_option maxRecDepth 100000 in
theorem r_X8_leastBeside_l5 (v0 : Nat) (v1 : Int32) (v2 : Nat) (v3 : Int32) (v4 : Int32) (h : Hp) {x : Cx} {o : ((Int32 × Int32) ⊕ Int32)} (e : F_X8_leastBeside_l5 v0 v1 v2 v3 v4 h = some o) (kI : ∀ z, o = .inl z → V M_X8_leastBeside x 0 5 [(0, .ref v0), (1, .int v1), (2, .ref v2), (3, .int z.1), (4, .int z.2)] [] h 0 0) (kE46 : ∀ z : Int32, o = .inr z → V M_X8_leastBeside x 0 46 [(3, .int z)] [] h 0 0) : V M_X8_leastBeside x 0 5 [(0, .ref v0), (1, .int v1), (2, .ref v2), (3, .int v3), (4, .int v4)] [] h 0 0 := by
  unfold F_X8_leastBeside_l5 at e
  refine V_iload (pc := 5) (i := 4) dX8_leastBeside_5 rfl ?_
  refine V_aload_n (pc := 7) (i := 0) dX8_leastBeside_7 rfl rfl ?_
  obtain ⟨g1, e⟩ := gd_some e
  refine V_getI (pc := 8) (ci := 7) (k := 0) dX8_leastBeside_8 fl_X8_9 rfl (of_decide_eq_true g1) ?_
  refine V_icmp_ge (pc := 11) (tgt := 46) dX8_leastBeside_11 (by decide) (fun c13 => ?_) (fun c13 => ?_)
  · rw [if_pos c13] at e
    cases e
    exact V_pick [3] rfl (kE46 _ rfl)
  · rw [if_neg c13] at e
    refine V_pick [0, 1, 2, 3, 4] rfl ?_
    refine V_iload (pc := 14) (i := 4) dX8_leastBeside_14 rfl ?_
    refine V_iload_n (pc := 16) (i := 1) dX8_leastBeside_16 rfl rfl ?_
    refine V_icmp_eq (pc := 17) (tgt := 40) dX8_leastBeside_17 (by decide) (fun c12 => ?_) (fun c12 => ?_)
    · rw [if_pos c12] at e
      exact V_pick [0, 1, 2, 3, 4] rfl (r_X8_leastBeside_b40 v0 v1 v2 v3 v4 h e kI kE46)
    · rw [if_neg c12] at e
      refine V_pick [0, 1, 2, 3, 4] rfl ?_
      refine V_iload_n (pc := 20) (i := 3) dX8_leastBeside_20 rfl rfl ?_
      refine V_aload_n (pc := 21) (i := 0) dX8_leastBeside_21 rfl rfl ?_
      obtain ⟨q2, g3, e⟩ := ob_some e
      refine V_getR (pc := 22) (ci := 7) (k := 1) (b := q2) dX8_leastBeside_22 fl_X8_15 rfl (of_decide_eq_true g1) g3 ?_
      refine V_iload (pc := 25) (i := 4) dX8_leastBeside_25 rfl ?_
      obtain ⟨g4, e⟩ := gd_some e
      obtain ⟨g5, e⟩ := gd_some e
      refine V_iald (pc := 27) dX8_leastBeside_27 (of_decide_eq_true g4) (ix_in g5) ?_
      refine V_aload_n (pc := 28) (i := 2) dX8_leastBeside_28 rfl rfl ?_
      refine V_aload_n (pc := 29) (i := 0) dX8_leastBeside_29 rfl rfl ?_
      obtain ⟨q6, g7, e⟩ := ob_some e
      refine V_getR (pc := 30) (ci := 7) (k := 3) (b := q6) dX8_leastBeside_30 fl_X8_22 rfl (of_decide_eq_true g1) g7 ?_
      refine V_iload (pc := 33) (i := 4) dX8_leastBeside_33 rfl ?_
      obtain ⟨g8, e⟩ := gd_some e
      obtain ⟨g9, e⟩ := gd_some e
      refine V_iald (pc := 35) dX8_leastBeside_35 (of_decide_eq_true g8) (ix_in g9) ?_
      obtain ⟨g10, e⟩ := gd_some e
      obtain ⟨g11, e⟩ := gd_some e
      refine V_iald (pc := 36) dX8_leastBeside_36 (of_decide_eq_true g10) (ix_in g11) ?_
      refine V_imul (pc := 37) dX8_leastBeside_37 ?_
      refine V_iadd (pc := 38) dX8_leastBeside_38 ?_
      refine V_istore_n (pc := 39) (i := 3) (lv' := [(3, .int (v3 + ((zI h q2 (v4).toNatClampNeg) * (zI h v2 (zI h q6 (v4).toNatClampNeg).toNatClampNeg)))), (0, .ref v0), (1, .int v1), (2, .ref v2), (4, .int v4)]) dX8_leastBeside_39 rfl (by decide) rfl ?_
      exact V_pick [1, 2, 3, 0, 4] rfl (r_X8_leastBeside_b40 v0 v1 v2 (v3 + ((zI h q2 (v4).toNatClampNeg) * (zI h v2 (zI h q6 (v4).toNatClampNeg).toNatClampNeg))) v4 h e kI kE46)
set_option maxRecDepth 100000 in
def F_X8_leastBeside_b0 (v0 : Nat) (v1 : Int32) (v2 : Nat) (h : Hp) : Option Int32 :=
  ob (iter (fun z : Int32 × Int32 => F_X8_leastBeside_l5 v0 v1 v2 z.1 z.2 h) FU ((0 : Int32), (0 : Int32))) (fun w14 => some w14)
set_option maxHeartbeats 4000000 in
set_option maxRecDepth 100000 in
theorem r_X8_leastBeside_b0 (v0 : Nat) (v1 : Int32) (v2 : Nat) (h : Hp) {x : Cx} {r : Int32} (e : F_X8_leastBeside_b0 v0 v1 v2 h = some r) (hF : Fin9 M_X8_leastBeside x (some .int) (some (.int r)) h) : V M_X8_leastBeside x 0 0 [(0, .ref v0), (1, .int v1), (2, .ref v2)] [] h 0 0 := by
  unfold F_X8_leastBeside_b0 at e
  refine V_iconst (pc := 0) (v := (0 : Int32)) dX8_leastBeside_0 (by decide) ?_
  refine V_istore_n (pc := 1) (i := 3) (lv' := [(3, .int (0 : Int32)), (0, .ref v0), (1, .int v1), (2, .ref v2)]) dX8_leastBeside_1 rfl (by decide) rfl ?_
  refine V_iconst (pc := 2) (v := (0 : Int32)) dX8_leastBeside_2 (by decide) ?_
  refine V_istore (pc := 3) (i := 4) (lv' := [(4, .int (0 : Int32)), (3, .int (0 : Int32)), (0, .ref v0), (1, .int v1), (2, .ref v2)]) dX8_leastBeside_3 (by decide) rfl ?_
  refine V_pick [2, 3, 4, 1, 0] rfl ?_
  obtain ⟨y15, g16, e⟩ := ob_some e
  refine iter_V (P := fun z : Int32 × Int32 => V M_X8_leastBeside x 0 5 [(0, .ref v0), (1, .int v1), (2, .ref v2), (3, .int z.1), (4, .int z.2)] [] h 0 0) (E := fun z : Int32 => V M_X8_leastBeside x 0 46 [(3, .int z)] [] h 0 0) (fun z o e9 k1 k2 => r_X8_leastBeside_l5 v0 v1 v2 z.1 z.2 h e9 (fun z hz9 => k1 z hz9) (fun z hz9 => k2 _ hz9)) _ _ _ g16 ?_
  clear g16
  obtain ⟨w14, rfl⟩ : ∃ q, q = y15 := ⟨_, rfl⟩
  replace e : (some w14) = some r := e
  show V M_X8_leastBeside x 0 46 [(3, .int w14)] [] h 0 0
  refine V_iload_n (pc := 46) (i := 3) dX8_leastBeside_46 rfl rfl ?_
  cases e
  exact V_iret (pc := 47) dX8_leastBeside_47 hF
def F_X8_leastBeside (v0 : Nat) (v1 : Int32) (v2 : Nat) (h : Hp) : Option Int32 := F_X8_leastBeside_b0 v0 v1 v2 h
theorem c_X8_leastBeside {l : Launch} (v0 : Nat) (v1 : Int32) (v2 : Nat) (h : Hp) {r : Int32} (e : F_X8_leastBeside v0 v1 v2 h = some r) : Ct l yX8_leastBeside M_X8_leastBeside (some .int) 0 [.ref v0, .int v1, .ref v2] h 0 0 (some (.int r)) h :=
  Ct_of rfl rfl (fun q => by cases q) (Nat.le_of_ble_eq_true rfl) (fun x _ hF => V_pick [0, 1, 2] rfl (r_X8_leastBeside_b0 v0 v1 v2 h e hF))
theorem dX8_nextRoom_0 : decode cX8_nextRoom 0 = .ok (.iconst (-1), 1) := by decide +kernel
theorem dX8_nextRoom_1 : decode cX8_nextRoom 1 = .ok (.istore 5, 2) := by decide +kernel
theorem dX8_nextRoom_3 : decode cX8_nextRoom 3 = .ok (.iconst 0, 1) := by decide +kernel
theorem dX8_nextRoom_4 : decode cX8_nextRoom 4 = .ok (.istore 6, 2) := by decide +kernel
theorem dX8_nextRoom_6 : decode cX8_nextRoom 6 = .ok (.iload 6, 2) := by decide +kernel
theorem dX8_nextRoom_8 : decode cX8_nextRoom 8 = .ok (.iload 4, 2) := by decide +kernel
theorem dX8_nextRoom_10 : decode cX8_nextRoom 10 = .ok (.if_icmp .ge 68, 3) := by decide +kernel
theorem dX8_nextRoom_13 : decode cX8_nextRoom 13 = .ok (.aload_n 2, 1) := by decide +kernel
theorem dX8_nextRoom_14 : decode cX8_nextRoom 14 = .ok (.iload 6, 2) := by decide +kernel
theorem dX8_nextRoom_16 : decode cX8_nextRoom 16 = .ok (.iaload, 1) := by decide +kernel
theorem dX8_nextRoom_17 : decode cX8_nextRoom 17 = .ok (.aload_n 2, 1) := by decide +kernel
theorem dX8_nextRoom_18 : decode cX8_nextRoom 18 = .ok (.iload_n 0, 1) := by decide +kernel
theorem dX8_nextRoom_19 : decode cX8_nextRoom 19 = .ok (.iaload, 1) := by decide +kernel
theorem dX8_nextRoom_20 : decode cX8_nextRoom 20 = .ok (.if_icmp .ne 20, 3) := by decide +kernel
theorem dX8_nextRoom_23 : decode cX8_nextRoom 23 = .ok (.iload_n 3, 1) := by decide +kernel
theorem dX8_nextRoom_24 : decode cX8_nextRoom 24 = .ok (.aload_n 1, 1) := by decide +kernel
theorem dX8_nextRoom_25 : decode cX8_nextRoom 25 = .ok (.iload 6, 2) := by decide +kernel
theorem dX8_nextRoom_27 : decode cX8_nextRoom 27 = .ok (.iaload, 1) := by decide +kernel
theorem dX8_nextRoom_28 : decode cX8_nextRoom 28 = .ok (.aload_n 1, 1) := by decide +kernel
theorem dX8_nextRoom_29 : decode cX8_nextRoom 29 = .ok (.iload_n 0, 1) := by decide +kernel
theorem dX8_nextRoom_30 : decode cX8_nextRoom 30 = .ok (.iaload, 1) := by decide +kernel
theorem dX8_nextRoom_31 : decode cX8_nextRoom 31 = .ok (.isub, 1) := by decide +kernel
theorem dX8_nextRoom_32 : decode cX8_nextRoom 32 = .ok (.imul, 1) := by decide +kernel
theorem dX8_nextRoom_33 : decode cX8_nextRoom 33 = .ok (.ifCond .le 7, 3) := by decide +kernel
theorem dX8_nextRoom_36 : decode cX8_nextRoom 36 = .ok (.iconst 1, 1) := by decide +kernel
theorem dX8_nextRoom_37 : decode cX8_nextRoom 37 = .ok (.goto 4, 3) := by decide +kernel
theorem dX8_nextRoom_40 : decode cX8_nextRoom 40 = .ok (.iconst 0, 1) := by decide +kernel
theorem dX8_nextRoom_41 : decode cX8_nextRoom 41 = .ok (.istore 7, 2) := by decide +kernel
theorem dX8_nextRoom_43 : decode cX8_nextRoom 43 = .ok (.iload 7, 2) := by decide +kernel
theorem dX8_nextRoom_45 : decode cX8_nextRoom 45 = .ok (.ifCond .eq 27, 3) := by decide +kernel
theorem dX8_nextRoom_48 : decode cX8_nextRoom 48 = .ok (.iload 5, 2) := by decide +kernel
theorem dX8_nextRoom_50 : decode cX8_nextRoom 50 = .ok (.iconst (-1), 1) := by decide +kernel
theorem dX8_nextRoom_51 : decode cX8_nextRoom 51 = .ok (.if_icmp .eq 17, 3) := by decide +kernel
theorem dX8_nextRoom_54 : decode cX8_nextRoom 54 = .ok (.iload_n 3, 1) := by decide +kernel
theorem dX8_nextRoom_55 : decode cX8_nextRoom 55 = .ok (.aload_n 1, 1) := by decide +kernel
theorem dX8_nextRoom_56 : decode cX8_nextRoom 56 = .ok (.iload 5, 2) := by decide +kernel
theorem dX8_nextRoom_58 : decode cX8_nextRoom 58 = .ok (.iaload, 1) := by decide +kernel
theorem dX8_nextRoom_59 : decode cX8_nextRoom 59 = .ok (.aload_n 1, 1) := by decide +kernel
theorem dX8_nextRoom_60 : decode cX8_nextRoom 60 = .ok (.iload 6, 2) := by decide +kernel
theorem dX8_nextRoom_62 : decode cX8_nextRoom 62 = .ok (.iaload, 1) := by decide +kernel
theorem dX8_nextRoom_63 : decode cX8_nextRoom 63 = .ok (.isub, 1) := by decide +kernel
theorem dX8_nextRoom_64 : decode cX8_nextRoom 64 = .ok (.imul, 1) := by decide +kernel
theorem dX8_nextRoom_65 : decode cX8_nextRoom 65 = .ok (.ifCond .le 7, 3) := by decide +kernel
theorem dX8_nextRoom_68 : decode cX8_nextRoom 68 = .ok (.iload 6, 2) := by decide +kernel
theorem dX8_nextRoom_70 : decode cX8_nextRoom 70 = .ok (.istore 5, 2) := by decide +kernel
theorem dX8_nextRoom_72 : decode cX8_nextRoom 72 = .ok (.iinc 6 1, 3) := by decide +kernel
theorem dX8_nextRoom_75 : decode cX8_nextRoom 75 = .ok (.goto (-69), 3) := by decide +kernel
theorem dX8_nextRoom_78 : decode cX8_nextRoom 78 = .ok (.iload 5, 2) := by decide +kernel
theorem dX8_nextRoom_80 : decode cX8_nextRoom 80 = .ok (.ireturn, 1) := by decide +kernel
set_option maxRecDepth 100000 in
def F_X8_nextRoom_b72 (v0 : Int32) (v1 : Nat) (v2 : Nat) (v3 : Int32) (v4 : Int32) (v5 : Int32) (v6 : Int32) (h : Hp) : Option ((Int32 × Int32) ⊕ Int32) :=
  some (.inl (v5, v6 + (1 : Int32)))
set_option maxHeartbeats 4000000 in
set_option maxRecDepth 100000 in
theorem r_X8_nextRoom_b72 (v0 : Int32) (v1 : Nat) (v2 : Nat) (v3 : Int32) (v4 : Int32) (v5 : Int32) (v6 : Int32) (h : Hp) {x : Cx} {o : ((Int32 × Int32) ⊕ Int32)} (e : F_X8_nextRoom_b72 v0 v1 v2 v3 v4 v5 v6 h = some o) (kI : ∀ z, o = .inl z → V M_X8_nextRoom x 0 6 [(0, .int v0), (1, .ref v1), (2, .ref v2), (3, .int v3), (4, .int v4), (5, .int z.1), (6, .int z.2)] [] h 0 0) (kE78 : ∀ z : Int32, o = .inr z → V M_X8_nextRoom x 0 78 [(5, .int z)] [] h 0 0) : V M_X8_nextRoom x 0 72 [(0, .int v0), (1, .ref v1), (2, .ref v2), (3, .int v3), (4, .int v4), (5, .int v5), (6, .int v6)] [] h 0 0 := by
  unfold F_X8_nextRoom_b72 at e
  refine V_iinc (pc := 72) (i := 6) (u := v6 + (1 : Int32)) (lv' := [(6, .int (v6 + (1 : Int32))), (0, .int v0), (1, .ref v1), (2, .ref v2), (3, .int v3), (4, .int v4), (5, .int v5)]) dX8_nextRoom_72 rfl rfl (by decide) rfl ?_
  refine V_goto (pc := 75) (tgt := 6) dX8_nextRoom_75 (by decide) ?_
  cases e
  exact V_pick [1, 2, 3, 4, 5, 6, 0] rfl (kI _ rfl)
set_option maxRecDepth 100000 in
def F_X8_nextRoom_b68 (v0 : Int32) (v1 : Nat) (v2 : Nat) (v3 : Int32) (v4 : Int32) (v6 : Int32) (h : Hp) : Option ((Int32 × Int32) ⊕ Int32) :=
  F_X8_nextRoom_b72 v0 v1 v2 v3 v4 v6 v6 h
set_option maxHeartbeats 4000000 in
set_option maxRecDepth 100000 in
theorem r_X8_nextRoom_b68 (v0 : Int32) (v1 : Nat) (v2 : Nat) (v3 : Int32) (v4 : Int32) (v6 : Int32) (h : Hp) {x : Cx} {o : ((Int32 × Int32) ⊕ Int32)} (e : F_X8_nextRoom_b68 v0 v1 v2 v3 v4 v6 h = some o) (kI : ∀ z, o = .inl z → V M_X8_nextRoom x 0 6 [(0, .int v0), (1, .ref v1), (2, .ref v2), (3, .int v3), (4, .int v4), (5, .int z.1), (6, .int z.2)] [] h 0 0) (kE78 : ∀ z : Int32, o = .inr z → V M_X8_nextRoom x 0 78 [(5, .int z)] [] h 0 0) : V M_X8_nextRoom x 0 68 [(0, .int v0), (1, .ref v1), (2, .ref v2), (3, .int v3), (4, .int v4), (6, .int v6)] [] h 0 0 := by
  unfold F_X8_nextRoom_b68 at e
  refine V_iload (pc := 68) (i := 6) dX8_nextRoom_68 rfl ?_
  refine V_istore (pc := 70) (i := 5) (lv' := [(5, .int v6), (0, .int v0), (1, .ref v1), (2, .ref v2), (3, .int v3), (4, .int v4), (6, .int v6)]) dX8_nextRoom_70 (by decide) rfl ?_
  exact V_pick [1, 2, 3, 4, 5, 0, 6] rfl (r_X8_nextRoom_b72 v0 v1 v2 v3 v4 v6 v6 h e kI kE78)
set_option maxRecDepth 100000 in
def F_X8_nextRoom_b41 (v0 : Int32) (v1 : Nat) (v2 : Nat) (v3 : Int32) (v4 : Int32) (v5 : Int32) (v6 : Int32) (t0 : Int32) (h : Hp) : Option ((Int32 × Int32) ⊕ Int32) :=
  (if t0 = 0 then F_X8_nextRoom_b72 v0 v1 v2 v3 v4 v5 v6 h else (if v5 = (-1 : Int32) then F_X8_nextRoom_b68 v0 v1 v2 v3 v4 v6 h else gd (decide (kd h v1 = 13)) <| gd (ix v5 (zl h v1)) <| gd (ix v6 (zl h v1)) <| (if (v3 * ((zI h v1 (v5).toNatClampNeg) - (zI h v1 (v6).toNatClampNeg))) ≤ 0 then F_X8_nextRoom_b72 v0 v1 v2 v3 v4 v5 v6 h else F_X8_nextRoom_b68 v0 v1 v2 v3 v4 v6 h)))
set_option maxHeartbeats 4000000 in
set_option maxRecDepth 100000 in
theorem r_X8_nextRoom_b41 (v0 : Int32) (v1 : Nat) (v2 : Nat) (v3 : Int32) (v4 : Int32) (v5 : Int32) (v6 : Int32) (t0 : Int32) (h : Hp) {x : Cx} {o : ((Int32 × Int32) ⊕ Int32)} (e : F_X8_nextRoom_b41 v0 v1 v2 v3 v4 v5 v6 t0 h = some o) (kI : ∀ z, o = .inl z → V M_X8_nextRoom x 0 6 [(0, .int v0), (1, .ref v1), (2, .ref v2), (3, .int v3), (4, .int v4), (5, .int z.1), (6, .int z.2)] [] h 0 0) (kE78 : ∀ z : Int32, o = .inr z → V M_X8_nextRoom x 0 78 [(5, .int z)] [] h 0 0) : V M_X8_nextRoom x 0 41 [(0, .int v0), (1, .ref v1), (2, .ref v2), (3, .int v3), (4, .int v4), (5, .int v5), (6, .int v6)] [.int t0] h 0 0 := by
  unfold F_X8_nextRoom_b41 at e
  refine V_istore (pc := 41) (i := 7) (lv' := [(7, .int t0), (0, .int v0), (1, .ref v1), (2, .ref v2), (3, .int v3), (4, .int v4), (5, .int v5), (6, .int v6)]) dX8_nextRoom_41 (by decide) rfl ?_
  refine V_iload (pc := 43) (i := 7) dX8_nextRoom_43 rfl ?_
  refine V_if_eq (pc := 45) (tgt := 72) dX8_nextRoom_45 (by decide) (fun c9 => ?_) (fun c9 => ?_)
  · rw [if_pos c9] at e
    exact V_pick [1, 2, 3, 4, 5, 6, 7] rfl (r_X8_nextRoom_b72 v0 v1 v2 v3 v4 v5 v6 h e kI kE78)
  · rw [if_neg c9] at e
    refine V_pick [1, 2, 3, 4, 5, 6, 7] rfl ?_
    refine V_iload (pc := 48) (i := 5) dX8_nextRoom_48 rfl ?_
    refine V_iconst (pc := 50) (v := (-1 : Int32)) dX8_nextRoom_50 (by decide) ?_
    refine V_icmp_eq (pc := 51) (tgt := 68) dX8_nextRoom_51 (by decide) (fun c8 => ?_) (fun c8 => ?_)
    · rw [if_pos c8] at e
      exact V_pick [0, 1, 2, 3, 4, 6] rfl (r_X8_nextRoom_b68 v0 v1 v2 v3 v4 v6 h e kI kE78)
    · rw [if_neg c8] at e
      refine V_pick [0, 1, 2, 3, 4, 5, 6] rfl ?_
      refine V_iload_n (pc := 54) (i := 3) dX8_nextRoom_54 rfl rfl ?_
      refine V_aload_n (pc := 55) (i := 1) dX8_nextRoom_55 rfl rfl ?_
      refine V_iload (pc := 56) (i := 5) dX8_nextRoom_56 rfl ?_
      obtain ⟨g4, e⟩ := gd_some e
      obtain ⟨g5, e⟩ := gd_some e
      refine V_iald (pc := 58) dX8_nextRoom_58 (of_decide_eq_true g4) (ix_in g5) ?_
      refine V_aload_n (pc := 59) (i := 1) dX8_nextRoom_59 rfl rfl ?_
      refine V_iload (pc := 60) (i := 6) dX8_nextRoom_60 rfl ?_
      obtain ⟨g6, e⟩ := gd_some e
      refine V_iald (pc := 62) dX8_nextRoom_62 (of_decide_eq_true g4) (ix_in g6) ?_
      refine V_isub (pc := 63) dX8_nextRoom_63 ?_
      refine V_imul (pc := 64) dX8_nextRoom_64 ?_
      refine V_if_le (pc := 65) (tgt := 72) dX8_nextRoom_65 (by decide) (fun c7 => ?_) (fun c7 => ?_)
      · rw [if_pos c7] at e
        exact V_pick [0, 1, 2, 3, 4, 5, 6] rfl (r_X8_nextRoom_b72 v0 v1 v2 v3 v4 v5 v6 h e kI kE78)
      · rw [if_neg c7] at e
        exact V_pick [0, 1, 2, 3, 4, 6] rfl (r_X8_nextRoom_b68 v0 v1 v2 v3 v4 v6 h e kI kE78)
set_option maxRecDepth 100000 in
def F_X8_nextRoom_b40 (v0 : Int32) (v1 : Nat) (v2 : Nat) (v3 : Int32) (v4 : Int32) (v5 : Int32) (v6 : Int32) (h : Hp) : Option ((Int32 × Int32) ⊕ Int32) :=
  F_X8_nextRoom_b41 v0 v1 v2 v3 v4 v5 v6 (0 : Int32) h
set_option maxHeartbeats 4000000 in
set_option maxRecDepth 100000 in
theorem r_X8_nextRoom_b40 (v0 : Int32) (v1 : Nat) (v2 : Nat) (v3 : Int32) (v4 : Int32) (v5 : Int32) (v6 : Int32) (h : Hp) {x : Cx} {o : ((Int32 × Int32) ⊕ Int32)} (e : F_X8_nextRoom_b40 v0 v1 v2 v3 v4 v5 v6 h = some o) (kI : ∀ z, o = .inl z → V M_X8_nextRoom x 0 6 [(0, .int v0), (1, .ref v1), (2, .ref v2), (3, .int v3), (4, .int v4), (5, .int z.1), (6, .int z.2)] [] h 0 0) (kE78 : ∀ z : Int32, o = .inr z → V M_X8_nextRoom x 0 78 [(5, .int z)] [] h 0 0) : V M_X8_nextRoom x 0 40 [(0, .int v0), (1, .ref v1), (2, .ref v2), (3, .int v3), (4, .int v4), (5, .int v5), (6, .int v6)] [] h 0 0 := by
  unfold F_X8_nextRoom_b40 at e
  refine V_iconst (pc := 40) (v := (0 : Int32)) dX8_nextRoom_40 (by decide) ?_
  exact V_pick [0, 1, 2, 3, 4, 5, 6] rfl (r_X8_nextRoom_b41 v0 v1 v2 v3 v4 v5 v6 (0 : Int32) h e kI kE78)
set_option maxRecDepth 100000 in
def F_X8_nextRoom_l6 (v0 : Int32) (v1 : Nat) (v2 : Nat) (v3 : Int32) (v4 : Int32) (v5 : Int32) (v6 : Int32) (h : Hp) : Option ((Int32 × Int32) ⊕ Int32) :=
  (if v4 ≤ v6 then some (.inr v5) else gd (decide (kd h v2 = 13)) <| gd (ix v6 (zl h v2)) <| gd (ix v0 (zl h v2)) <| (if (zI h v2 (v6).toNatClampNeg) = (zI h v2 (v0).toNatClampNeg) then gd (decide (kd h v1 = 13)) <| gd (ix v6 (zl h v1)) <| gd (ix v0 (zl h v1)) <| (if (v3 * ((zI h v1 (v6).toNatClampNeg) - (zI h v1 (v0).toNatClampNeg))) ≤ 0 then F_X8_nextRoom_b40 v0 v1 v2 v3 v4 v5 v6 h else F_X8_nextRoom_b41 v0 v1 v2 v3 v4 v5 v6 (1 : Int32) h) else F_X8_nextRoom_b40 v0 v1 v2 v3 v4 v5 v6 h))
set_option maxHeartbeats 4000000 in
set_option maxRecDepth 100000 in
theorem r_X8_nextRoom_l6 (v0 : Int32) (v1 : Nat) (v2 : Nat) (v3 : Int32) (v4 : Int32) (v5 : Int32) (v6 : Int32) (h : Hp) {x : Cx} {o : ((Int32 × Int32) ⊕ Int32)} (e : F_X8_nextRoom_l6 v0 v1 v2 v3 v4 v5 v6 h = some o) (kI : ∀ z, o = .inl z → V M_X8_nextRoom x 0 6 [(0, .int v0), (1, .ref v1), (2, .ref v2), (3, .int v3), (4, .int v4), (5, .int z.1), (6, .int z.2)] [] h 0 0) (kE78 : ∀ z : Int32, o = .inr z → V M_X8_nextRoom x 0 78 [(5, .int z)] [] h 0 0) : V M_X8_nextRoom x 0 6 [(0, .int v0), (1, .ref v1), (2, .ref v2), (3, .int v3), (4, .int v4), (5, .int v5), (6, .int v6)] [] h 0 0 := by
  unfold F_X8_nextRoom_l6 at e
  refine V_iload (pc := 6) (i := 6) dX8_nextRoom_6 rfl ?_
  refine V_iload (pc := 8) (i := 4) dX8_nextRoom_8 rfl ?_
  refine V_icmp_ge (pc := 10) (tgt := 78) dX8_nextRoom_10 (by decide) (fun c15 => ?_) (fun c15 => ?_)
  · rw [if_pos c15] at e
    cases e
    exact V_pick [5] rfl (kE78 _ rfl)
  · rw [if_neg c15] at e
    refine V_pick [0, 1, 2, 3, 4, 5, 6] rfl ?_
    refine V_aload_n (pc := 13) (i := 2) dX8_nextRoom_13 rfl rfl ?_
    refine V_iload (pc := 14) (i := 6) dX8_nextRoom_14 rfl ?_
    obtain ⟨g1, e⟩ := gd_some e
    obtain ⟨g2, e⟩ := gd_some e
    refine V_iald (pc := 16) dX8_nextRoom_16 (of_decide_eq_true g1) (ix_in g2) ?_
    refine V_aload_n (pc := 17) (i := 2) dX8_nextRoom_17 rfl rfl ?_
    refine V_iload_n (pc := 18) (i := 0) dX8_nextRoom_18 rfl rfl ?_
    obtain ⟨g3, e⟩ := gd_some e
    refine V_iald (pc := 19) dX8_nextRoom_19 (of_decide_eq_true g1) (ix_in g3) ?_
    refine V_icmp_ne (pc := 20) (tgt := 40) dX8_nextRoom_20 (by decide) (fun c14 => ?_) (fun c14 => ?_)
    · rw [if_neg c14] at e
      exact V_pick [0, 1, 2, 3, 4, 5, 6] rfl (r_X8_nextRoom_b40 v0 v1 v2 v3 v4 v5 v6 h e kI kE78)
    · rw [if_pos c14] at e
      refine V_pick [0, 1, 2, 3, 4, 5, 6] rfl ?_
      refine V_iload_n (pc := 23) (i := 3) dX8_nextRoom_23 rfl rfl ?_
      refine V_aload_n (pc := 24) (i := 1) dX8_nextRoom_24 rfl rfl ?_
      refine V_iload (pc := 25) (i := 6) dX8_nextRoom_25 rfl ?_
      obtain ⟨g10, e⟩ := gd_some e
      obtain ⟨g11, e⟩ := gd_some e
      refine V_iald (pc := 27) dX8_nextRoom_27 (of_decide_eq_true g10) (ix_in g11) ?_
      refine V_aload_n (pc := 28) (i := 1) dX8_nextRoom_28 rfl rfl ?_
      refine V_iload_n (pc := 29) (i := 0) dX8_nextRoom_29 rfl rfl ?_
      obtain ⟨g12, e⟩ := gd_some e
      refine V_iald (pc := 30) dX8_nextRoom_30 (of_decide_eq_true g10) (ix_in g12) ?_
      refine V_isub (pc := 31) dX8_nextRoom_31 ?_
      refine V_imul (pc := 32) dX8_nextRoom_32 ?_
      refine V_if_le (pc := 33) (tgt := 40) dX8_nextRoom_33 (by decide) (fun c13 => ?_) (fun c13 => ?_)
      · rw [if_pos c13] at e
        exact V_pick [0, 1, 2, 3, 4, 5, 6] rfl (r_X8_nextRoom_b40 v0 v1 v2 v3 v4 v5 v6 h e kI kE78)
      · rw [if_neg c13] at e
        refine V_pick [0, 1, 2, 3, 4, 5, 6] rfl ?_
        refine V_iconst (pc := 36) (v := (1 : Int32)) dX8_nextRoom_36 (by decide) ?_
        refine V_goto (pc := 37) (tgt := 41) dX8_nextRoom_37 (by decide) ?_
        exact V_pick [0, 1, 2, 3, 4, 5, 6] rfl (r_X8_nextRoom_b41 v0 v1 v2 v3 v4 v5 v6 (1 : Int32) h e kI kE78)
set_option maxRecDepth 100000 in
def F_X8_nextRoom_b0 (v0 : Int32) (v1 : Nat) (v2 : Nat) (v3 : Int32) (v4 : Int32) (h : Hp) : Option Int32 :=
  ob (iter (fun z : Int32 × Int32 => F_X8_nextRoom_l6 v0 v1 v2 v3 v4 z.1 z.2 h) FU ((-1 : Int32), (0 : Int32))) (fun w16 => some w16)
set_option maxHeartbeats 4000000 in
set_option maxRecDepth 100000 in
theorem r_X8_nextRoom_b0 (v0 : Int32) (v1 : Nat) (v2 : Nat) (v3 : Int32) (v4 : Int32) (h : Hp) {x : Cx} {r : Int32} (e : F_X8_nextRoom_b0 v0 v1 v2 v3 v4 h = some r) (hF : Fin9 M_X8_nextRoom x (some .int) (some (.int r)) h) : V M_X8_nextRoom x 0 0 [(0, .int v0), (1, .ref v1), (2, .ref v2), (3, .int v3), (4, .int v4)] [] h 0 0 := by
  unfold F_X8_nextRoom_b0 at e
  refine V_iconst (pc := 0) (v := (-1 : Int32)) dX8_nextRoom_0 (by decide) ?_
  refine V_istore (pc := 1) (i := 5) (lv' := [(5, .int (-1 : Int32)), (0, .int v0), (1, .ref v1), (2, .ref v2), (3, .int v3), (4, .int v4)]) dX8_nextRoom_1 (by decide) rfl ?_
  refine V_iconst (pc := 3) (v := (0 : Int32)) dX8_nextRoom_3 (by decide) ?_
  refine V_istore (pc := 4) (i := 6) (lv' := [(6, .int (0 : Int32)), (5, .int (-1 : Int32)), (0, .int v0), (1, .ref v1), (2, .ref v2), (3, .int v3), (4, .int v4)]) dX8_nextRoom_4 (by decide) rfl ?_
  refine V_pick [2, 3, 4, 5, 6, 1, 0] rfl ?_
  obtain ⟨y17, g18, e⟩ := ob_some e
  refine iter_V (P := fun z : Int32 × Int32 => V M_X8_nextRoom x 0 6 [(0, .int v0), (1, .ref v1), (2, .ref v2), (3, .int v3), (4, .int v4), (5, .int z.1), (6, .int z.2)] [] h 0 0) (E := fun z : Int32 => V M_X8_nextRoom x 0 78 [(5, .int z)] [] h 0 0) (fun z o e9 k1 k2 => r_X8_nextRoom_l6 v0 v1 v2 v3 v4 z.1 z.2 h e9 (fun z hz9 => k1 z hz9) (fun z hz9 => k2 _ hz9)) _ _ _ g18 ?_
  clear g18
  obtain ⟨w16, rfl⟩ : ∃ q, q = y17 := ⟨_, rfl⟩
  replace e : (some w16) = some r := e
  show V M_X8_nextRoom x 0 78 [(5, .int w16)] [] h 0 0
  refine V_iload (pc := 78) (i := 5) dX8_nextRoom_78 rfl ?_
  cases e
  exact V_iret (pc := 80) dX8_nextRoom_80 hF
def F_X8_nextRoom (v0 : Int32) (v1 : Nat) (v2 : Nat) (v3 : Int32) (v4 : Int32) (h : Hp) : Option Int32 := F_X8_nextRoom_b0 v0 v1 v2 v3 v4 h
theorem c_X8_nextRoom {l : Launch} (v0 : Int32) (v1 : Nat) (v2 : Nat) (v3 : Int32) (v4 : Int32) (h : Hp) {r : Int32} (e : F_X8_nextRoom v0 v1 v2 v3 v4 h = some r) : Ct l yX8_nextRoom M_X8_nextRoom (some .int) 0 [.int v0, .ref v1, .ref v2, .int v3, .int v4] h 0 0 (some (.int r)) h :=
  Ct_of rfl rfl (fun q => by cases q) (Nat.le_of_ble_eq_true rfl) (fun x _ hF => V_pick [0, 1, 2, 3, 4] rfl (r_X8_nextRoom_b0 v0 v1 v2 v3 v4 h e hF))
theorem dX9_start_0 : decode cX9_start 0 = .ok (.aload_n 0, 1) := by decide +kernel
theorem dX9_start_1 : decode cX9_start 1 = .ok (.iconst 1, 1) := by decide +kernel
theorem dX9_start_2 : decode cX9_start 2 = .ok (.putfield 18, 3) := by decide +kernel
theorem dX9_start_5 : decode cX9_start 5 = .ok (.iconst 0, 1) := by decide +kernel
theorem dX9_start_6 : decode cX9_start 6 = .ok (.istore_n 3, 1) := by decide +kernel
theorem dX9_start_7 : decode cX9_start 7 = .ok (.iload_n 3, 1) := by decide +kernel
theorem dX9_start_8 : decode cX9_start 8 = .ok (.iconst 5, 1) := by decide +kernel
theorem dX9_start_9 : decode cX9_start 9 = .ok (.if_icmp .ge 16, 3) := by decide +kernel
theorem dX9_start_12 : decode cX9_start 12 = .ok (.aload_n 0, 1) := by decide +kernel
theorem dX9_start_13 : decode cX9_start 13 = .ok (.getfield 9, 3) := by decide +kernel
theorem dX9_start_16 : decode cX9_start 16 = .ok (.iload_n 3, 1) := by decide +kernel
theorem dX9_start_17 : decode cX9_start 17 = .ok (.iconst (-1), 1) := by decide +kernel
theorem dX9_start_18 : decode cX9_start 18 = .ok (.iastore, 1) := by decide +kernel
theorem dX9_start_19 : decode cX9_start 19 = .ok (.iinc 3 1, 3) := by decide +kernel
theorem dX9_start_22 : decode cX9_start 22 = .ok (.goto (-15), 3) := by decide +kernel
theorem dX9_start_25 : decode cX9_start 25 = .ok (.iconst 0, 1) := by decide +kernel
theorem dX9_start_26 : decode cX9_start 26 = .ok (.istore_n 3, 1) := by decide +kernel
theorem dX9_start_27 : decode cX9_start 27 = .ok (.iload_n 3, 1) := by decide +kernel
theorem dX9_start_28 : decode cX9_start 28 = .ok (.bipush 8, 2) := by decide +kernel
theorem dX9_start_30 : decode cX9_start 30 = .ok (.if_icmp .ge 16, 3) := by decide +kernel
theorem dX9_start_33 : decode cX9_start 33 = .ok (.aload_n 0, 1) := by decide +kernel
theorem dX9_start_34 : decode cX9_start 34 = .ok (.getfield 15, 3) := by decide +kernel
theorem dX9_start_37 : decode cX9_start 37 = .ok (.iload_n 3, 1) := by decide +kernel
theorem dX9_start_38 : decode cX9_start 38 = .ok (.iconst 0, 1) := by decide +kernel
theorem dX9_start_39 : decode cX9_start 39 = .ok (.iastore, 1) := by decide +kernel
theorem dX9_start_40 : decode cX9_start 40 = .ok (.iinc 3 1, 3) := by decide +kernel
theorem dX9_start_43 : decode cX9_start 43 = .ok (.goto (-16), 3) := by decide +kernel
theorem dX9_start_46 : decode cX9_start 46 = .ok (.aload_n 0, 1) := by decide +kernel
theorem dX9_start_47 : decode cX9_start 47 = .ok (.aload_n 1, 1) := by decide +kernel
theorem dX9_start_48 : decode cX9_start 48 = .ok (.aload_n 1, 1) := by decide +kernel
theorem dX9_start_49 : decode cX9_start 49 = .ok (.getfield 44, 3) := by decide +kernel
theorem dX9_start_52 : decode cX9_start 52 = .ok (.iload_n 2, 1) := by decide +kernel
theorem dX9_start_53 : decode cX9_start 53 = .ok (.invokevirtual 49, 3) := by decide +kernel
theorem dX9_start_56 : decode cX9_start 56 = .ok (.putfield 22, 3) := by decide +kernel
theorem dX9_start_59 : decode cX9_start 59 = .ok (.aload_n 0, 1) := by decide +kernel
theorem dX9_start_60 : decode cX9_start 60 = .ok (.aload_n 1, 1) := by decide +kernel
theorem dX9_start_61 : decode cX9_start 61 = .ok (.aload_n 1, 1) := by decide +kernel
theorem dX9_start_62 : decode cX9_start 62 = .ok (.getfield 53, 3) := by decide +kernel
theorem dX9_start_65 : decode cX9_start 65 = .ok (.iload_n 2, 1) := by decide +kernel
theorem dX9_start_66 : decode cX9_start 66 = .ok (.invokevirtual 49, 3) := by decide +kernel
theorem dX9_start_69 : decode cX9_start 69 = .ok (.putfield 26, 3) := by decide +kernel
theorem dX9_start_72 : decode cX9_start 72 = .ok (.aload_n 0, 1) := by decide +kernel
theorem dX9_start_73 : decode cX9_start 73 = .ok (.aload_n 1, 1) := by decide +kernel
theorem dX9_start_74 : decode cX9_start 74 = .ok (.getfield 56, 3) := by decide +kernel
theorem dX9_start_77 : decode cX9_start 77 = .ok (.aload_n 1, 1) := by decide +kernel
theorem dX9_start_78 : decode cX9_start 78 = .ok (.getfield 44, 3) := by decide +kernel
theorem dX9_start_81 : decode cX9_start 81 = .ok (.invokevirtual 60, 3) := by decide +kernel
theorem dX9_start_84 : decode cX9_start 84 = .ok (.putfield 29, 3) := by decide +kernel
theorem dX9_start_87 : decode cX9_start 87 = .ok (.aload_n 0, 1) := by decide +kernel
theorem dX9_start_88 : decode cX9_start 88 = .ok (.aload_n 1, 1) := by decide +kernel
theorem dX9_start_89 : decode cX9_start 89 = .ok (.getfield 56, 3) := by decide +kernel
theorem dX9_start_92 : decode cX9_start 92 = .ok (.aload_n 1, 1) := by decide +kernel
theorem dX9_start_93 : decode cX9_start 93 = .ok (.getfield 44, 3) := by decide +kernel
theorem dX9_start_96 : decode cX9_start 96 = .ok (.invokevirtual 66, 3) := by decide +kernel
theorem dX9_start_99 : decode cX9_start 99 = .ok (.putfield 32, 3) := by decide +kernel
theorem dX9_start_102 : decode cX9_start 102 = .ok (.aload_n 0, 1) := by decide +kernel
theorem dX9_start_103 : decode cX9_start 103 = .ok (.aload_n 1, 1) := by decide +kernel
theorem dX9_start_104 : decode cX9_start 104 = .ok (.getfield 56, 3) := by decide +kernel
theorem dX9_start_107 : decode cX9_start 107 = .ok (.aload_n 1, 1) := by decide +kernel
theorem dX9_start_108 : decode cX9_start 108 = .ok (.getfield 53, 3) := by decide +kernel
theorem dX9_start_111 : decode cX9_start 111 = .ok (.invokevirtual 60, 3) := by decide +kernel
theorem dX9_start_114 : decode cX9_start 114 = .ok (.putfield 35, 3) := by decide +kernel
theorem dX9_start_117 : decode cX9_start 117 = .ok (.aload_n 0, 1) := by decide +kernel
theorem dX9_start_118 : decode cX9_start 118 = .ok (.aload_n 1, 1) := by decide +kernel
theorem dX9_start_119 : decode cX9_start 119 = .ok (.getfield 56, 3) := by decide +kernel
theorem dX9_start_122 : decode cX9_start 122 = .ok (.aload_n 1, 1) := by decide +kernel
theorem dX9_start_123 : decode cX9_start 123 = .ok (.getfield 53, 3) := by decide +kernel
theorem dX9_start_126 : decode cX9_start 126 = .ok (.invokevirtual 66, 3) := by decide +kernel
theorem dX9_start_129 : decode cX9_start 129 = .ok (.putfield 38, 3) := by decide +kernel
theorem dX9_start_132 : decode cX9_start 132 = .ok (.aload_n 0, 1) := by decide +kernel
theorem dX9_start_133 : decode cX9_start 133 = .ok (.aload_n 1, 1) := by decide +kernel
theorem dX9_start_134 : decode cX9_start 134 = .ok (.getfield 69, 3) := by decide +kernel
theorem dX9_start_137 : decode cX9_start 137 = .ok (.putfield 41, 3) := by decide +kernel
theorem dX9_start_140 : decode cX9_start 140 = .ok (.return_, 1) := by decide +kernel
set_option maxRecDepth 100000 in
def F_X9_start_l7 (v0 : Nat) (v1 : Nat) (v2 : Int32) (v3 : Int32) (h : Hp) : Option ((Int32 × Hp) ⊕ Hp) :=
  (if (5 : Int32) ≤ v3 then some (.inr h) else gd (decide (kd h v0 = 8)) <| ob (zR h v0 0) fun q3 => gd (decide (kd h q3 = 13)) <| gd (ix v3 (zl h q3)) <| some (.inl (v3 + (1 : Int32), setI h q3 (v3).toNatClampNeg (-1 : Int32))))
set_option maxHeartbeats 4000000 in
set_option maxRecDepth 100000 in
theorem r_X9_start_l7 (v0 : Nat) (v1 : Nat) (v2 : Int32) (v3 : Int32) (h : Hp) {x : Cx} {o : ((Int32 × Hp) ⊕ Hp)} (e : F_X9_start_l7 v0 v1 v2 v3 h = some o) (kI : ∀ z, o = .inl z → V M_X9_start x 1 7 [(0, .ref v0), (1, .ref v1), (2, .int v2), (3, .int z.1)] [] z.2 0 0) (kE25 : ∀ z : Hp, o = .inr z → V M_X9_start x 1 25 [(0, .ref v0), (1, .ref v1), (2, .int v2)] [] z 0 0) : V M_X9_start x 1 7 [(0, .ref v0), (1, .ref v1), (2, .int v2), (3, .int v3)] [] h 0 0 := by
  unfold F_X9_start_l7 at e
  refine V_iload_n (pc := 7) (i := 3) dX9_start_7 rfl rfl ?_
  refine V_iconst (pc := 8) (v := (5 : Int32)) dX9_start_8 (by decide) ?_
  refine V_icmp_ge (pc := 9) (tgt := 25) dX9_start_9 (by decide) (fun c7 => ?_) (fun c7 => ?_)
  · rw [if_pos c7] at e
    cases e
    exact V_pick [0, 1, 2] rfl (kE25 _ rfl)
  · rw [if_neg c7] at e
    refine V_pick [0, 1, 2, 3] rfl ?_
    refine V_aload_n (pc := 12) (i := 0) dX9_start_12 rfl rfl ?_
    obtain ⟨g2, e⟩ := gd_some e
    obtain ⟨q3, g4, e⟩ := ob_some e
    refine V_getR (pc := 13) (ci := 8) (k := 0) (b := q3) dX9_start_13 fl_X9_9 rfl (of_decide_eq_true g2) g4 ?_
    refine V_iload_n (pc := 16) (i := 3) dX9_start_16 rfl rfl ?_
    refine V_iconst (pc := 17) (v := (-1 : Int32)) dX9_start_17 (by decide) ?_
    obtain ⟨g5, e⟩ := gd_some e
    obtain ⟨g6, e⟩ := gd_some e
    refine V_iast (pc := 18) dX9_start_18 (of_decide_eq_true g5) (ix_in g6) ?_
    refine V_iinc (pc := 19) (i := 3) (u := v3 + (1 : Int32)) (lv' := [(3, .int (v3 + (1 : Int32))), (0, .ref v0), (1, .ref v1), (2, .int v2)]) dX9_start_19 rfl rfl (by decide) rfl ?_
    refine V_goto (pc := 22) (tgt := 7) dX9_start_22 (by decide) ?_
    cases e
    exact V_pick [1, 2, 3, 0] rfl (kI _ rfl)
set_option maxRecDepth 100000 in
def F_X9_start_l27 (v0 : Nat) (v1 : Nat) (v2 : Int32) (v3 : Int32) (h : Hp) : Option ((Int32 × Hp) ⊕ Hp) :=
  (if (8 : Int32) ≤ v3 then some (.inr h) else gd (decide (kd h v0 = 8)) <| ob (zR h v0 1) fun q10 => gd (decide (kd h q10 = 13)) <| gd (ix v3 (zl h q10)) <| some (.inl (v3 + (1 : Int32), setI h q10 (v3).toNatClampNeg (0 : Int32))))
set_option maxHeartbeats 4000000 in
set_option maxRecDepth 100000 in
theorem r_X9_start_l27 (v0 : Nat) (v1 : Nat) (v2 : Int32) (v3 : Int32) (h : Hp) {x : Cx} {o : ((Int32 × Hp) ⊕ Hp)} (e : F_X9_start_l27 v0 v1 v2 v3 h = some o) (kI : ∀ z, o = .inl z → V M_X9_start x 1 27 [(0, .ref v0), (1, .ref v1), (2, .int v2), (3, .int z.1)] [] z.2 0 0) (kE46 : ∀ z : Hp, o = .inr z → V M_X9_start x 1 46 [(0, .ref v0), (1, .ref v1), (2, .int v2)] [] z 0 0) : V M_X9_start x 1 27 [(0, .ref v0), (1, .ref v1), (2, .int v2), (3, .int v3)] [] h 0 0 := by
  unfold F_X9_start_l27 at e
  refine V_iload_n (pc := 27) (i := 3) dX9_start_27 rfl rfl ?_
  refine V_bipush (pc := 28) (v := (8 : Int32)) dX9_start_28 (by decide) ?_
  refine V_icmp_ge (pc := 30) (tgt := 46) dX9_start_30 (by decide) (fun c14 => ?_) (fun c14 => ?_)
  · rw [if_pos c14] at e
    cases e
    exact V_pick [0, 1, 2] rfl (kE46 _ rfl)
  · rw [if_neg c14] at e
    refine V_pick [0, 1, 2, 3] rfl ?_
    refine V_aload_n (pc := 33) (i := 0) dX9_start_33 rfl rfl ?_
    obtain ⟨g9, e⟩ := gd_some e
    obtain ⟨q10, g11, e⟩ := ob_some e
    refine V_getR (pc := 34) (ci := 8) (k := 1) (b := q10) dX9_start_34 fl_X9_15 rfl (of_decide_eq_true g9) g11 ?_
    refine V_iload_n (pc := 37) (i := 3) dX9_start_37 rfl rfl ?_
    refine V_iconst (pc := 38) (v := (0 : Int32)) dX9_start_38 (by decide) ?_
    obtain ⟨g12, e⟩ := gd_some e
    obtain ⟨g13, e⟩ := gd_some e
    refine V_iast (pc := 39) dX9_start_39 (of_decide_eq_true g12) (ix_in g13) ?_
    refine V_iinc (pc := 40) (i := 3) (u := v3 + (1 : Int32)) (lv' := [(3, .int (v3 + (1 : Int32))), (0, .ref v0), (1, .ref v1), (2, .int v2)]) dX9_start_40 rfl rfl (by decide) rfl ?_
    refine V_goto (pc := 43) (tgt := 27) dX9_start_43 (by decide) ?_
    cases e
    exact V_pick [1, 2, 3, 0] rfl (kI _ rfl)
set_option maxRecDepth 100000 in
def F_X9_start_b0 (v0 : Nat) (v1 : Nat) (v2 : Int32) (h : Hp) : Option (Unit × Hp) :=
  gd (decide (kd h v0 = 8)) <| ob (iter (fun z : Int32 × Hp => F_X9_start_l7 v0 v1 v2 z.1 z.2) FU ((0 : Int32), setI h v0 2 (1 : Int32))) (fun h8 => ob (iter (fun z : Int32 × Hp => F_X9_start_l27 v0 v1 v2 z.1 z.2) FU ((0 : Int32), h8)) (fun h15 => gd (decide (kd h15 v1 = 2)) <| ob (zR h15 v1 1) fun q17 => ob (F_X2_netOfThings v1 q17 v2 h15) fun r20 => gd (decide (kd h15 v0 = 8)) <| ob (zR (setI h15 v0 3 r20) v1 2) fun q22 => ob (F_X2_netOfThings v1 q22 v2 (setI h15 v0 3 r20)) fun r25 => ob (zR (setI (setI h15 v0 3 r20) v0 4 r25) v1 9) fun q26 => ob (zR (setI (setI h15 v0 3 r20) v0 4 r25) v1 1) fun q28 => ob (F_X8_lowest q26 q28 (setI (setI h15 v0 3 r20) v0 4 r25)) fun r31 => gd (decide (kd (setI (setI h15 v0 3 r20) v0 4 r25) q26 = 7)) <| ob (zR (setI (setI (setI h15 v0 3 r20) v0 4 r25) v0 5 r31) v1 9) fun q33 => ob (zR (setI (setI (setI h15 v0 3 r20) v0 4 r25) v0 5 r31) v1 1) fun q35 => ob (F_X8_highest q33 q35 (setI (setI (setI h15 v0 3 r20) v0 4 r25) v0 5 r31)) fun r38 => gd (decide (kd (setI (setI (setI h15 v0 3 r20) v0 4 r25) v0 5 r31) q33 = 7)) <| ob (zR (setI (setI (setI (setI h15 v0 3 r20) v0 4 r25) v0 5 r31) v0 6 r38) v1 9) fun q40 => ob (zR (setI (setI (setI (setI h15 v0 3 r20) v0 4 r25) v0 5 r31) v0 6 r38) v1 2) fun q42 => ob (F_X8_lowest q40 q42 (setI (setI (setI (setI h15 v0 3 r20) v0 4 r25) v0 5 r31) v0 6 r38)) fun r45 => gd (decide (kd (setI (setI (setI (setI h15 v0 3 r20) v0 4 r25) v0 5 r31) v0 6 r38) q40 = 7)) <| ob (zR (setI (setI (setI (setI (setI h15 v0 3 r20) v0 4 r25) v0 5 r31) v0 6 r38) v0 7 r45) v1 9) fun q47 => ob (zR (setI (setI (setI (setI (setI h15 v0 3 r20) v0 4 r25) v0 5 r31) v0 6 r38) v0 7 r45) v1 2) fun q49 => ob (F_X8_highest q47 q49 (setI (setI (setI (setI (setI h15 v0 3 r20) v0 4 r25) v0 5 r31) v0 6 r38) v0 7 r45)) fun r52 => gd (decide (kd (setI (setI (setI (setI (setI h15 v0 3 r20) v0 4 r25) v0 5 r31) v0 6 r38) v0 7 r45) q47 = 7)) <| some ((), setI (setI (setI (setI (setI (setI (setI h15 v0 3 r20) v0 4 r25) v0 5 r31) v0 6 r38) v0 7 r45) v0 8 r52) v0 9 (zI (setI (setI (setI (setI (setI (setI h15 v0 3 r20) v0 4 r25) v0 5 r31) v0 6 r38) v0 7 r45) v0 8 r52) v1 12))))
set_option maxHeartbeats 4000000 in
set_option maxRecDepth 100000 in
theorem r_X9_start_b0 (v0 : Nat) (v1 : Nat) (v2 : Int32) (h : Hp) {x : Cx} {r : Unit} {hz : Hp} (e : F_X9_start_b0 v0 v1 v2 h = some (r, hz)) (hF : Fin9 M_X9_start x none none hz) : V M_X9_start x 1 0 [(0, .ref v0), (1, .ref v1), (2, .int v2)] [] h 0 0 := by
  unfold F_X9_start_b0 at e
  refine V_aload_n (pc := 0) (i := 0) dX9_start_0 rfl rfl ?_
  refine V_iconst (pc := 1) (v := (1 : Int32)) dX9_start_1 (by decide) ?_
  obtain ⟨g1, e⟩ := gd_some e
  refine V_putZ (pc := 2) (ci := 8) (k := 2) dX9_start_2 fp_X9_18 rfl (of_decide_eq_true g1) (by decide) ?_
  refine V_iconst (pc := 5) (v := (0 : Int32)) dX9_start_5 (by decide) ?_
  refine V_istore_n (pc := 6) (i := 3) (lv' := [(3, .int (0 : Int32)), (0, .ref v0), (1, .ref v1), (2, .int v2)]) dX9_start_6 rfl (by decide) rfl ?_
  refine V_pick [1, 2, 3, 0] rfl ?_
  obtain ⟨y56, g57, e⟩ := ob_some e
  refine iter_V (P := fun z : Int32 × Hp => V M_X9_start x 1 7 [(0, .ref v0), (1, .ref v1), (2, .int v2), (3, .int z.1)] [] z.2 0 0) (E := fun z : Hp => V M_X9_start x 1 25 [(0, .ref v0), (1, .ref v1), (2, .int v2)] [] z 0 0) (fun z o e9 k1 k2 => r_X9_start_l7 v0 v1 v2 z.1 z.2 e9 (fun z hz9 => k1 z hz9) (fun z hz9 => k2 _ hz9)) _ _ _ g57 ?_
  clear g57
  obtain ⟨h8, rfl⟩ : ∃ q, q = y56 := ⟨_, rfl⟩
  replace e : (ob (iter (fun z : Int32 × Hp => F_X9_start_l27 v0 v1 v2 z.1 z.2) FU ((0 : Int32), h8)) (fun h15 => gd (decide (kd h15 v1 = 2)) <| ob (zR h15 v1 1) fun q17 => ob (F_X2_netOfThings v1 q17 v2 h15) fun r20 => gd (decide (kd h15 v0 = 8)) <| ob (zR (setI h15 v0 3 r20) v1 2) fun q22 => ob (F_X2_netOfThings v1 q22 v2 (setI h15 v0 3 r20)) fun r25 => ob (zR (setI (setI h15 v0 3 r20) v0 4 r25) v1 9) fun q26 => ob (zR (setI (setI h15 v0 3 r20) v0 4 r25) v1 1) fun q28 => ob (F_X8_lowest q26 q28 (setI (setI h15 v0 3 r20) v0 4 r25)) fun r31 => gd (decide (kd (setI (setI h15 v0 3 r20) v0 4 r25) q26 = 7)) <| ob (zR (setI (setI (setI h15 v0 3 r20) v0 4 r25) v0 5 r31) v1 9) fun q33 => ob (zR (setI (setI (setI h15 v0 3 r20) v0 4 r25) v0 5 r31) v1 1) fun q35 => ob (F_X8_highest q33 q35 (setI (setI (setI h15 v0 3 r20) v0 4 r25) v0 5 r31)) fun r38 => gd (decide (kd (setI (setI (setI h15 v0 3 r20) v0 4 r25) v0 5 r31) q33 = 7)) <| ob (zR (setI (setI (setI (setI h15 v0 3 r20) v0 4 r25) v0 5 r31) v0 6 r38) v1 9) fun q40 => ob (zR (setI (setI (setI (setI h15 v0 3 r20) v0 4 r25) v0 5 r31) v0 6 r38) v1 2) fun q42 => ob (F_X8_lowest q40 q42 (setI (setI (setI (setI h15 v0 3 r20) v0 4 r25) v0 5 r31) v0 6 r38)) fun r45 => gd (decide (kd (setI (setI (setI (setI h15 v0 3 r20) v0 4 r25) v0 5 r31) v0 6 r38) q40 = 7)) <| ob (zR (setI (setI (setI (setI (setI h15 v0 3 r20) v0 4 r25) v0 5 r31) v0 6 r38) v0 7 r45) v1 9) fun q47 => ob (zR (setI (setI (setI (setI (setI h15 v0 3 r20) v0 4 r25) v0 5 r31) v0 6 r38) v0 7 r45) v1 2) fun q49 => ob (F_X8_highest q47 q49 (setI (setI (setI (setI (setI h15 v0 3 r20) v0 4 r25) v0 5 r31) v0 6 r38) v0 7 r45)) fun r52 => gd (decide (kd (setI (setI (setI (setI (setI h15 v0 3 r20) v0 4 r25) v0 5 r31) v0 6 r38) v0 7 r45) q47 = 7)) <| some ((), setI (setI (setI (setI (setI (setI (setI h15 v0 3 r20) v0 4 r25) v0 5 r31) v0 6 r38) v0 7 r45) v0 8 r52) v0 9 (zI (setI (setI (setI (setI (setI (setI h15 v0 3 r20) v0 4 r25) v0 5 r31) v0 6 r38) v0 7 r45) v0 8 r52) v1 12)))) = some (r, hz) := e
  show V M_X9_start x 1 25 [(0, .ref v0), (1, .ref v1), (2, .int v2)] [] h8 0 0
  refine V_iconst (pc := 25) (v := (0 : Int32)) dX9_start_25 (by decide) ?_
  refine V_istore_n (pc := 26) (i := 3) (lv' := [(3, .int (0 : Int32)), (0, .ref v0), (1, .ref v1), (2, .int v2)]) dX9_start_26 rfl (by decide) rfl ?_
  refine V_pick [1, 2, 3, 0] rfl ?_
  obtain ⟨y54, g55, e⟩ := ob_some e
  refine iter_V (P := fun z : Int32 × Hp => V M_X9_start x 1 27 [(0, .ref v0), (1, .ref v1), (2, .int v2), (3, .int z.1)] [] z.2 0 0) (E := fun z : Hp => V M_X9_start x 1 46 [(0, .ref v0), (1, .ref v1), (2, .int v2)] [] z 0 0) (fun z o e9 k1 k2 => r_X9_start_l27 v0 v1 v2 z.1 z.2 e9 (fun z hz9 => k1 z hz9) (fun z hz9 => k2 _ hz9)) _ _ _ g55 ?_
  clear g55
  obtain ⟨h15, rfl⟩ : ∃ q, q = y54 := ⟨_, rfl⟩
  replace e : (gd (decide (kd h15 v1 = 2)) <| ob (zR h15 v1 1) fun q17 => ob (F_X2_netOfThings v1 q17 v2 h15) fun r20 => gd (decide (kd h15 v0 = 8)) <| ob (zR (setI h15 v0 3 r20) v1 2) fun q22 => ob (F_X2_netOfThings v1 q22 v2 (setI h15 v0 3 r20)) fun r25 => ob (zR (setI (setI h15 v0 3 r20) v0 4 r25) v1 9) fun q26 => ob (zR (setI (setI h15 v0 3 r20) v0 4 r25) v1 1) fun q28 => ob (F_X8_lowest q26 q28 (setI (setI h15 v0 3 r20) v0 4 r25)) fun r31 => gd (decide (kd (setI (setI h15 v0 3 r20) v0 4 r25) q26 = 7)) <| ob (zR (setI (setI (setI h15 v0 3 r20) v0 4 r25) v0 5 r31) v1 9) fun q33 => ob (zR (setI (setI (setI h15 v0 3 r20) v0 4 r25) v0 5 r31) v1 1) fun q35 => ob (F_X8_highest q33 q35 (setI (setI (setI h15 v0 3 r20) v0 4 r25) v0 5 r31)) fun r38 => gd (decide (kd (setI (setI (setI h15 v0 3 r20) v0 4 r25) v0 5 r31) q33 = 7)) <| ob (zR (setI (setI (setI (setI h15 v0 3 r20) v0 4 r25) v0 5 r31) v0 6 r38) v1 9) fun q40 => ob (zR (setI (setI (setI (setI h15 v0 3 r20) v0 4 r25) v0 5 r31) v0 6 r38) v1 2) fun q42 => ob (F_X8_lowest q40 q42 (setI (setI (setI (setI h15 v0 3 r20) v0 4 r25) v0 5 r31) v0 6 r38)) fun r45 => gd (decide (kd (setI (setI (setI (setI h15 v0 3 r20) v0 4 r25) v0 5 r31) v0 6 r38) q40 = 7)) <| ob (zR (setI (setI (setI (setI (setI h15 v0 3 r20) v0 4 r25) v0 5 r31) v0 6 r38) v0 7 r45) v1 9) fun q47 => ob (zR (setI (setI (setI (setI (setI h15 v0 3 r20) v0 4 r25) v0 5 r31) v0 6 r38) v0 7 r45) v1 2) fun q49 => ob (F_X8_highest q47 q49 (setI (setI (setI (setI (setI h15 v0 3 r20) v0 4 r25) v0 5 r31) v0 6 r38) v0 7 r45)) fun r52 => gd (decide (kd (setI (setI (setI (setI (setI h15 v0 3 r20) v0 4 r25) v0 5 r31) v0 6 r38) v0 7 r45) q47 = 7)) <| some ((), setI (setI (setI (setI (setI (setI (setI h15 v0 3 r20) v0 4 r25) v0 5 r31) v0 6 r38) v0 7 r45) v0 8 r52) v0 9 (zI (setI (setI (setI (setI (setI (setI h15 v0 3 r20) v0 4 r25) v0 5 r31) v0 6 r38) v0 7 r45) v0 8 r52) v1 12))) = some (r, hz) := e
  show V M_X9_start x 1 46 [(0, .ref v0), (1, .ref v1), (2, .int v2)] [] h15 0 0
  refine V_aload_n (pc := 46) (i := 0) dX9_start_46 rfl rfl ?_
  refine V_aload_n (pc := 47) (i := 1) dX9_start_47 rfl rfl ?_
  refine V_aload_n (pc := 48) (i := 1) dX9_start_48 rfl rfl ?_
  obtain ⟨g16, e⟩ := gd_some e
  obtain ⟨q17, g18, e⟩ := ob_some e
  refine V_getR (pc := 49) (ci := 2) (k := 1) (b := q17) dX9_start_49 fl_X9_44 rfl (of_decide_eq_true g16) g18 ?_
  refine V_iload_n (pc := 52) (i := 2) dX9_start_52 rfl rfl ?_
  obtain ⟨r20, g19, e⟩ := ob_some e
  refine V_callV (pc := 53) (bc := 0) (bs := 0) (mc := 0) (ms := 0) (st := [.ref v0]) (As := [.ref q17, .int v2]) (a := v1) (h' := h15) (r := some (.int r20)) dX9_start_53 ml_X9_49 (ci := 2) rfl (of_decide_eq_true g16) rfl rfl (Nat.le_of_ble_eq_true rfl) (d' := 0) (by decide) (c_X2_netOfThings (l := x.2.1) v1 q17 v2 h15 g19) ?_
  obtain ⟨g21, e⟩ := gd_some e
  refine V_putI (pc := 56) (ci := 8) (k := 3) dX9_start_56 fp_X9_22 rfl (of_decide_eq_true g21) ?_
  refine V_aload_n (pc := 59) (i := 0) dX9_start_59 rfl rfl ?_
  refine V_aload_n (pc := 60) (i := 1) dX9_start_60 rfl rfl ?_
  refine V_aload_n (pc := 61) (i := 1) dX9_start_61 rfl rfl ?_
  obtain ⟨q22, g23, e⟩ := ob_some e
  refine V_getR (pc := 62) (ci := 2) (k := 2) (b := q22) dX9_start_62 fl_X9_53 rfl (of_decide_eq_true g16) g23 ?_
  refine V_iload_n (pc := 65) (i := 2) dX9_start_65 rfl rfl ?_
  obtain ⟨r25, g24, e⟩ := ob_some e
  refine V_callV (pc := 66) (bc := 0) (bs := 0) (mc := 0) (ms := 0) (st := [.ref v0]) (As := [.ref q22, .int v2]) (a := v1) (h' := (setI h15 v0 3 r20)) (r := some (.int r25)) dX9_start_66 ml_X9_49 (ci := 2) rfl (of_decide_eq_true g16) rfl rfl (Nat.le_of_ble_eq_true rfl) (d' := 0) (by decide) (c_X2_netOfThings (l := x.2.1) v1 q22 v2 (setI h15 v0 3 r20) g24) ?_
  refine V_putI (pc := 69) (ci := 8) (k := 4) dX9_start_69 fp_X9_26 rfl (of_decide_eq_true g21) ?_
  refine V_aload_n (pc := 72) (i := 0) dX9_start_72 rfl rfl ?_
  refine V_aload_n (pc := 73) (i := 1) dX9_start_73 rfl rfl ?_
  obtain ⟨q26, g27, e⟩ := ob_some e
  refine V_getR (pc := 74) (ci := 2) (k := 9) (b := q26) dX9_start_74 fl_X9_56 rfl (of_decide_eq_true g16) g27 ?_
  refine V_aload_n (pc := 77) (i := 1) dX9_start_77 rfl rfl ?_
  obtain ⟨q28, g29, e⟩ := ob_some e
  refine V_getR (pc := 78) (ci := 2) (k := 1) (b := q28) dX9_start_78 fl_X9_44 rfl (of_decide_eq_true g16) g29 ?_
  obtain ⟨r31, g30, e⟩ := ob_some e
  obtain ⟨g32, e⟩ := gd_some e
  refine V_callV (pc := 81) (bc := 0) (bs := 0) (mc := 0) (ms := 0) (st := [.ref v0]) (As := [.ref q28]) (a := q26) (h' := (setI (setI h15 v0 3 r20) v0 4 r25)) (r := some (.int r31)) dX9_start_81 ml_X9_60 (ci := 7) rfl (of_decide_eq_true g32) rfl rfl (Nat.le_of_ble_eq_true rfl) (d' := 0) (by decide) (c_X8_lowest (l := x.2.1) q26 q28 (setI (setI h15 v0 3 r20) v0 4 r25) g30) ?_
  refine V_putI (pc := 84) (ci := 8) (k := 5) dX9_start_84 fp_X9_29 rfl (of_decide_eq_true g21) ?_
  refine V_aload_n (pc := 87) (i := 0) dX9_start_87 rfl rfl ?_
  refine V_aload_n (pc := 88) (i := 1) dX9_start_88 rfl rfl ?_
  obtain ⟨q33, g34, e⟩ := ob_some e
  refine V_getR (pc := 89) (ci := 2) (k := 9) (b := q33) dX9_start_89 fl_X9_56 rfl (of_decide_eq_true g16) g34 ?_
  refine V_aload_n (pc := 92) (i := 1) dX9_start_92 rfl rfl ?_
  obtain ⟨q35, g36, e⟩ := ob_some e
  refine V_getR (pc := 93) (ci := 2) (k := 1) (b := q35) dX9_start_93 fl_X9_44 rfl (of_decide_eq_true g16) g36 ?_
  obtain ⟨r38, g37, e⟩ := ob_some e
  obtain ⟨g39, e⟩ := gd_some e
  refine V_callV (pc := 96) (bc := 0) (bs := 0) (mc := 0) (ms := 0) (st := [.ref v0]) (As := [.ref q35]) (a := q33) (h' := (setI (setI (setI h15 v0 3 r20) v0 4 r25) v0 5 r31)) (r := some (.int r38)) dX9_start_96 ml_X9_66 (ci := 7) rfl (of_decide_eq_true g39) rfl rfl (Nat.le_of_ble_eq_true rfl) (d' := 0) (by decide) (c_X8_highest (l := x.2.1) q33 q35 (setI (setI (setI h15 v0 3 r20) v0 4 r25) v0 5 r31) g37) ?_
  refine V_putI (pc := 99) (ci := 8) (k := 6) dX9_start_99 fp_X9_32 rfl (of_decide_eq_true g21) ?_
  refine V_aload_n (pc := 102) (i := 0) dX9_start_102 rfl rfl ?_
  refine V_aload_n (pc := 103) (i := 1) dX9_start_103 rfl rfl ?_
  obtain ⟨q40, g41, e⟩ := ob_some e
  refine V_getR (pc := 104) (ci := 2) (k := 9) (b := q40) dX9_start_104 fl_X9_56 rfl (of_decide_eq_true g16) g41 ?_
  refine V_aload_n (pc := 107) (i := 1) dX9_start_107 rfl rfl ?_
  obtain ⟨q42, g43, e⟩ := ob_some e
  refine V_getR (pc := 108) (ci := 2) (k := 2) (b := q42) dX9_start_108 fl_X9_53 rfl (of_decide_eq_true g16) g43 ?_
  obtain ⟨r45, g44, e⟩ := ob_some e
  obtain ⟨g46, e⟩ := gd_some e
  refine V_callV (pc := 111) (bc := 0) (bs := 0) (mc := 0) (ms := 0) (st := [.ref v0]) (As := [.ref q42]) (a := q40) (h' := (setI (setI (setI (setI h15 v0 3 r20) v0 4 r25) v0 5 r31) v0 6 r38)) (r := some (.int r45)) dX9_start_111 ml_X9_60 (ci := 7) rfl (of_decide_eq_true g46) rfl rfl (Nat.le_of_ble_eq_true rfl) (d' := 0) (by decide) (c_X8_lowest (l := x.2.1) q40 q42 (setI (setI (setI (setI h15 v0 3 r20) v0 4 r25) v0 5 r31) v0 6 r38) g44) ?_
  refine V_putI (pc := 114) (ci := 8) (k := 7) dX9_start_114 fp_X9_35 rfl (of_decide_eq_true g21) ?_
  refine V_aload_n (pc := 117) (i := 0) dX9_start_117 rfl rfl ?_
  refine V_aload_n (pc := 118) (i := 1) dX9_start_118 rfl rfl ?_
  obtain ⟨q47, g48, e⟩ := ob_some e
  refine V_getR (pc := 119) (ci := 2) (k := 9) (b := q47) dX9_start_119 fl_X9_56 rfl (of_decide_eq_true g16) g48 ?_
  refine V_aload_n (pc := 122) (i := 1) dX9_start_122 rfl rfl ?_
  obtain ⟨q49, g50, e⟩ := ob_some e
  refine V_getR (pc := 123) (ci := 2) (k := 2) (b := q49) dX9_start_123 fl_X9_53 rfl (of_decide_eq_true g16) g50 ?_
  obtain ⟨r52, g51, e⟩ := ob_some e
  obtain ⟨g53, e⟩ := gd_some e
  refine V_callV (pc := 126) (bc := 0) (bs := 0) (mc := 0) (ms := 0) (st := [.ref v0]) (As := [.ref q49]) (a := q47) (h' := (setI (setI (setI (setI (setI h15 v0 3 r20) v0 4 r25) v0 5 r31) v0 6 r38) v0 7 r45)) (r := some (.int r52)) dX9_start_126 ml_X9_66 (ci := 7) rfl (of_decide_eq_true g53) rfl rfl (Nat.le_of_ble_eq_true rfl) (d' := 0) (by decide) (c_X8_highest (l := x.2.1) q47 q49 (setI (setI (setI (setI (setI h15 v0 3 r20) v0 4 r25) v0 5 r31) v0 6 r38) v0 7 r45) g51) ?_
  refine V_putI (pc := 129) (ci := 8) (k := 8) dX9_start_129 fp_X9_38 rfl (of_decide_eq_true g21) ?_
  refine V_aload_n (pc := 132) (i := 0) dX9_start_132 rfl rfl ?_
  refine V_aload_n (pc := 133) (i := 1) dX9_start_133 rfl rfl ?_
  refine V_getI (pc := 134) (ci := 2) (k := 12) dX9_start_134 fl_X9_69 rfl (of_decide_eq_true g16) ?_
  refine V_putI (pc := 137) (ci := 8) (k := 9) dX9_start_137 fp_X9_41 rfl (of_decide_eq_true g21) ?_
  cases e
  exact V_vret (pc := 140) dX9_start_140 hF
def F_X9_start (v0 : Nat) (v1 : Nat) (v2 : Int32) (h : Hp) : Option (Unit × Hp) := F_X9_start_b0 v0 v1 v2 h
theorem c_X9_start {l : Launch} (v0 : Nat) (v1 : Nat) (v2 : Int32) (h : Hp) {r : Unit} {hz : Hp} (e : F_X9_start v0 v1 v2 h = some (r, hz)) : Ct l yX9_start M_X9_start none 1 [.ref v0, .ref v1, .int v2] h 0 0 none hz :=
  Ct_of rfl rfl (fun q => by cases q) (Nat.le_of_ble_eq_true rfl) (fun x _ hF => V_pick [0, 1, 2] rfl (r_X9_start_b0 v0 v1 v2 h e hF))
theorem dX9_seatFurther_0 : decode cX9_seatFurther 0 = .ok (.aload_n 0, 1) := by decide +kernel
theorem dX9_seatFurther_1 : decode cX9_seatFurther 1 = .ok (.getfield 9, 3) := by decide +kernel
theorem dX9_seatFurther_4 : decode cX9_seatFurther 4 = .ok (.iload_n 1, 1) := by decide +kernel
theorem dX9_seatFurther_5 : decode cX9_seatFurther 5 = .ok (.iaload, 1) := by decide +kernel
theorem dX9_seatFurther_6 : decode cX9_seatFurther 6 = .ok (.istore_n 3, 1) := by decide +kernel
theorem dX9_seatFurther_7 : decode cX9_seatFurther 7 = .ok (.iload_n 3, 1) := by decide +kernel
theorem dX9_seatFurther_8 : decode cX9_seatFurther 8 = .ok (.iconst (-1), 1) := by decide +kernel
theorem dX9_seatFurther_9 : decode cX9_seatFurther 9 = .ok (.if_icmp .eq 57, 3) := by decide +kernel
theorem dX9_seatFurther_12 : decode cX9_seatFurther 12 = .ok (.aload_n 0, 1) := by decide +kernel
theorem dX9_seatFurther_13 : decode cX9_seatFurther 13 = .ok (.getfield 15, 3) := by decide +kernel
theorem dX9_seatFurther_16 : decode cX9_seatFurther 16 = .ok (.iload_n 3, 1) := by decide +kernel
theorem dX9_seatFurther_17 : decode cX9_seatFurther 17 = .ok (.dup2, 1) := by decide +kernel
theorem dX9_seatFurther_18 : decode cX9_seatFurther 18 = .ok (.iaload, 1) := by decide +kernel
theorem dX9_seatFurther_19 : decode cX9_seatFurther 19 = .ok (.iconst 1, 1) := by decide +kernel
theorem dX9_seatFurther_20 : decode cX9_seatFurther 20 = .ok (.isub, 1) := by decide +kernel
theorem dX9_seatFurther_21 : decode cX9_seatFurther 21 = .ok (.iastore, 1) := by decide +kernel
theorem dX9_seatFurther_22 : decode cX9_seatFurther 22 = .ok (.aload_n 0, 1) := by decide +kernel
theorem dX9_seatFurther_23 : decode cX9_seatFurther 23 = .ok (.dup, 1) := by decide +kernel
theorem dX9_seatFurther_24 : decode cX9_seatFurther 24 = .ok (.getfield 22, 3) := by decide +kernel
theorem dX9_seatFurther_27 : decode cX9_seatFurther 27 = .ok (.aload_n 2, 1) := by decide +kernel
theorem dX9_seatFurther_28 : decode cX9_seatFurther 28 = .ok (.getfield 78, 3) := by decide +kernel
theorem dX9_seatFurther_31 : decode cX9_seatFurther 31 = .ok (.iload_n 1, 1) := by decide +kernel
theorem dX9_seatFurther_32 : decode cX9_seatFurther 32 = .ok (.iaload, 1) := by decide +kernel
theorem dX9_seatFurther_33 : decode cX9_seatFurther 33 = .ok (.aload_n 2, 1) := by decide +kernel
theorem dX9_seatFurther_34 : decode cX9_seatFurther 34 = .ok (.getfield 44, 3) := by decide +kernel
theorem dX9_seatFurther_37 : decode cX9_seatFurther 37 = .ok (.iload_n 3, 1) := by decide +kernel
theorem dX9_seatFurther_38 : decode cX9_seatFurther 38 = .ok (.iaload, 1) := by decide +kernel
theorem dX9_seatFurther_39 : decode cX9_seatFurther 39 = .ok (.imul, 1) := by decide +kernel
theorem dX9_seatFurther_40 : decode cX9_seatFurther 40 = .ok (.isub, 1) := by decide +kernel
theorem dX9_seatFurther_41 : decode cX9_seatFurther 41 = .ok (.putfield 22, 3) := by decide +kernel
theorem dX9_seatFurther_44 : decode cX9_seatFurther 44 = .ok (.aload_n 0, 1) := by decide +kernel
theorem dX9_seatFurther_45 : decode cX9_seatFurther 45 = .ok (.dup, 1) := by decide +kernel
theorem dX9_seatFurther_46 : decode cX9_seatFurther 46 = .ok (.getfield 26, 3) := by decide +kernel
theorem dX9_seatFurther_49 : decode cX9_seatFurther 49 = .ok (.aload_n 2, 1) := by decide +kernel
theorem dX9_seatFurther_50 : decode cX9_seatFurther 50 = .ok (.getfield 78, 3) := by decide +kernel
theorem dX9_seatFurther_53 : decode cX9_seatFurther 53 = .ok (.iload_n 1, 1) := by decide +kernel
theorem dX9_seatFurther_54 : decode cX9_seatFurther 54 = .ok (.iaload, 1) := by decide +kernel
theorem dX9_seatFurther_55 : decode cX9_seatFurther 55 = .ok (.aload_n 2, 1) := by decide +kernel
theorem dX9_seatFurther_56 : decode cX9_seatFurther 56 = .ok (.getfield 53, 3) := by decide +kernel
theorem dX9_seatFurther_59 : decode cX9_seatFurther 59 = .ok (.iload_n 3, 1) := by decide +kernel
theorem dX9_seatFurther_60 : decode cX9_seatFurther 60 = .ok (.iaload, 1) := by decide +kernel
theorem dX9_seatFurther_61 : decode cX9_seatFurther 61 = .ok (.imul, 1) := by decide +kernel
theorem dX9_seatFurther_62 : decode cX9_seatFurther 62 = .ok (.isub, 1) := by decide +kernel
theorem dX9_seatFurther_63 : decode cX9_seatFurther 63 = .ok (.putfield 26, 3) := by decide +kernel
theorem dX9_seatFurther_66 : decode cX9_seatFurther 66 = .ok (.iload_n 3, 1) := by decide +kernel
theorem dX9_seatFurther_67 : decode cX9_seatFurther 67 = .ok (.iconst 1, 1) := by decide +kernel
theorem dX9_seatFurther_68 : decode cX9_seatFurther 68 = .ok (.iadd, 1) := by decide +kernel
theorem dX9_seatFurther_69 : decode cX9_seatFurther 69 = .ok (.istore 4, 2) := by decide +kernel
theorem dX9_seatFurther_71 : decode cX9_seatFurther 71 = .ok (.iload 4, 2) := by decide +kernel
theorem dX9_seatFurther_73 : decode cX9_seatFurther 73 = .ok (.aload_n 2, 1) := by decide +kernel
theorem dX9_seatFurther_74 : decode cX9_seatFurther 74 = .ok (.getfield 81, 3) := by decide +kernel
theorem dX9_seatFurther_77 : decode cX9_seatFurther 77 = .ok (.if_icmp .ge 93, 3) := by decide +kernel
theorem dX9_seatFurther_80 : decode cX9_seatFurther 80 = .ok (.aload_n 0, 1) := by decide +kernel
theorem dX9_seatFurther_81 : decode cX9_seatFurther 81 = .ok (.getfield 15, 3) := by decide +kernel
theorem dX9_seatFurther_84 : decode cX9_seatFurther 84 = .ok (.iload 4, 2) := by decide +kernel
theorem dX9_seatFurther_86 : decode cX9_seatFurther 86 = .ok (.iaload, 1) := by decide +kernel
theorem dX9_seatFurther_87 : decode cX9_seatFurther 87 = .ok (.aload_n 2, 1) := by decide +kernel
theorem dX9_seatFurther_88 : decode cX9_seatFurther 88 = .ok (.getfield 84, 3) := by decide +kernel
theorem dX9_seatFurther_91 : decode cX9_seatFurther 91 = .ok (.iload 4, 2) := by decide +kernel
theorem dX9_seatFurther_93 : decode cX9_seatFurther 93 = .ok (.iaload, 1) := by decide +kernel
theorem dX9_seatFurther_94 : decode cX9_seatFurther 94 = .ok (.if_icmp .ge 70, 3) := by decide +kernel
theorem dX9_seatFurther_97 : decode cX9_seatFurther 97 = .ok (.aload_n 0, 1) := by decide +kernel
theorem dX9_seatFurther_98 : decode cX9_seatFurther 98 = .ok (.getfield 9, 3) := by decide +kernel
theorem dX9_seatFurther_101 : decode cX9_seatFurther 101 = .ok (.iload_n 1, 1) := by decide +kernel
theorem dX9_seatFurther_102 : decode cX9_seatFurther 102 = .ok (.iload 4, 2) := by decide +kernel
theorem dX9_seatFurther_104 : decode cX9_seatFurther 104 = .ok (.iastore, 1) := by decide +kernel
theorem dX9_seatFurther_105 : decode cX9_seatFurther 105 = .ok (.aload_n 0, 1) := by decide +kernel
theorem dX9_seatFurther_106 : decode cX9_seatFurther 106 = .ok (.getfield 15, 3) := by decide +kernel
theorem dX9_seatFurther_109 : decode cX9_seatFurther 109 = .ok (.iload 4, 2) := by decide +kernel
theorem dX9_seatFurther_111 : decode cX9_seatFurther 111 = .ok (.dup2, 1) := by decide +kernel
theorem dX9_seatFurther_112 : decode cX9_seatFurther 112 = .ok (.iaload, 1) := by decide +kernel
theorem dX9_seatFurther_113 : decode cX9_seatFurther 113 = .ok (.iconst 1, 1) := by decide +kernel
theorem dX9_seatFurther_114 : decode cX9_seatFurther 114 = .ok (.iadd, 1) := by decide +kernel
theorem dX9_seatFurther_115 : decode cX9_seatFurther 115 = .ok (.iastore, 1) := by decide +kernel
theorem dX9_seatFurther_116 : decode cX9_seatFurther 116 = .ok (.aload_n 0, 1) := by decide +kernel
theorem dX9_seatFurther_117 : decode cX9_seatFurther 117 = .ok (.dup, 1) := by decide +kernel
theorem dX9_seatFurther_118 : decode cX9_seatFurther 118 = .ok (.getfield 22, 3) := by decide +kernel
theorem dX9_seatFurther_121 : decode cX9_seatFurther 121 = .ok (.aload_n 2, 1) := by decide +kernel
theorem dX9_seatFurther_122 : decode cX9_seatFurther 122 = .ok (.getfield 78, 3) := by decide +kernel
theorem dX9_seatFurther_125 : decode cX9_seatFurther 125 = .ok (.iload_n 1, 1) := by decide +kernel
theorem dX9_seatFurther_126 : decode cX9_seatFurther 126 = .ok (.iaload, 1) := by decide +kernel
theorem dX9_seatFurther_127 : decode cX9_seatFurther 127 = .ok (.aload_n 2, 1) := by decide +kernel
theorem dX9_seatFurther_128 : decode cX9_seatFurther 128 = .ok (.getfield 44, 3) := by decide +kernel
theorem dX9_seatFurther_131 : decode cX9_seatFurther 131 = .ok (.iload 4, 2) := by decide +kernel
theorem dX9_seatFurther_133 : decode cX9_seatFurther 133 = .ok (.iaload, 1) := by decide +kernel
theorem dX9_seatFurther_134 : decode cX9_seatFurther 134 = .ok (.imul, 1) := by decide +kernel
theorem dX9_seatFurther_135 : decode cX9_seatFurther 135 = .ok (.iadd, 1) := by decide +kernel
theorem dX9_seatFurther_136 : decode cX9_seatFurther 136 = .ok (.putfield 22, 3) := by decide +kernel
theorem dX9_seatFurther_139 : decode cX9_seatFurther 139 = .ok (.aload_n 0, 1) := by decide +kernel
theorem dX9_seatFurther_140 : decode cX9_seatFurther 140 = .ok (.dup, 1) := by decide +kernel
theorem dX9_seatFurther_141 : decode cX9_seatFurther 141 = .ok (.getfield 26, 3) := by decide +kernel
theorem dX9_seatFurther_144 : decode cX9_seatFurther 144 = .ok (.aload_n 2, 1) := by decide +kernel
theorem dX9_seatFurther_145 : decode cX9_seatFurther 145 = .ok (.getfield 78, 3) := by decide +kernel
theorem dX9_seatFurther_148 : decode cX9_seatFurther 148 = .ok (.iload_n 1, 1) := by decide +kernel
theorem dX9_seatFurther_149 : decode cX9_seatFurther 149 = .ok (.iaload, 1) := by decide +kernel
theorem dX9_seatFurther_150 : decode cX9_seatFurther 150 = .ok (.aload_n 2, 1) := by decide +kernel
theorem dX9_seatFurther_151 : decode cX9_seatFurther 151 = .ok (.getfield 53, 3) := by decide +kernel
theorem dX9_seatFurther_154 : decode cX9_seatFurther 154 = .ok (.iload 4, 2) := by decide +kernel
theorem dX9_seatFurther_156 : decode cX9_seatFurther 156 = .ok (.iaload, 1) := by decide +kernel
theorem dX9_seatFurther_157 : decode cX9_seatFurther 157 = .ok (.imul, 1) := by decide +kernel
theorem dX9_seatFurther_158 : decode cX9_seatFurther 158 = .ok (.iadd, 1) := by decide +kernel
theorem dX9_seatFurther_159 : decode cX9_seatFurther 159 = .ok (.putfield 26, 3) := by decide +kernel
theorem dX9_seatFurther_162 : decode cX9_seatFurther 162 = .ok (.iconst 1, 1) := by decide +kernel
theorem dX9_seatFurther_163 : decode cX9_seatFurther 163 = .ok (.ireturn, 1) := by decide +kernel
theorem dX9_seatFurther_164 : decode cX9_seatFurther 164 = .ok (.iinc 4 1, 3) := by decide +kernel
theorem dX9_seatFurther_167 : decode cX9_seatFurther 167 = .ok (.goto (-96), 3) := by decide +kernel
theorem dX9_seatFurther_170 : decode cX9_seatFurther 170 = .ok (.aload_n 0, 1) := by decide +kernel
theorem dX9_seatFurther_171 : decode cX9_seatFurther 171 = .ok (.getfield 9, 3) := by decide +kernel
theorem dX9_seatFurther_174 : decode cX9_seatFurther 174 = .ok (.iload_n 1, 1) := by decide +kernel
theorem dX9_seatFurther_175 : decode cX9_seatFurther 175 = .ok (.iconst (-1), 1) := by decide +kernel
theorem dX9_seatFurther_176 : decode cX9_seatFurther 176 = .ok (.iastore, 1) := by decide +kernel
theorem dX9_seatFurther_177 : decode cX9_seatFurther 177 = .ok (.iconst 0, 1) := by decide +kernel
theorem dX9_seatFurther_178 : decode cX9_seatFurther 178 = .ok (.ireturn, 1) := by decide +kernel
set_option maxRecDepth 100000 in
def F_X9_seatFurther_l71 (v0 : Nat) (v1 : Int32) (v2 : Nat) (v4 : Int32) (h : Hp) : Option (Int32 ⊕ (Unit ⊕ Int32)) :=
  gd (decide (kd h v2 = 2)) <| (if (zI h v2 0) ≤ v4 then some (.inr (.inl ())) else gd (decide (kd h v0 = 8)) <| ob (zR h v0 1) fun q8 => gd (decide (kd h q8 = 13)) <| gd (ix v4 (zl h q8)) <| ob (zR h v2 3) fun q12 => gd (decide (kd h q12 = 13)) <| gd (ix v4 (zl h q12)) <| (if (zI h q12 (v4).toNatClampNeg) ≤ (zI h q8 (v4).toNatClampNeg) then some (.inl (v4 + (1 : Int32))) else some (.inr (.inr v4))))
set_option maxHeartbeats 4000000 in
set_option maxRecDepth 100000 in
theorem r_X9_seatFurther_l71 (v0 : Nat) (v1 : Int32) (v2 : Nat) (v4 : Int32) (h : Hp) {x : Cx} {o : (Int32 ⊕ (Unit ⊕ Int32))} (e : F_X9_seatFurther_l71 v0 v1 v2 v4 h = some o) (kI : ∀ z, o = .inl z → V M_X9_seatFurther x 0 71 [(0, .ref v0), (1, .int v1), (2, .ref v2), (4, .int z)] [] h 0 0) (kE170 : ∀ z : Unit, o = .inr (.inl z) → V M_X9_seatFurther x 0 170 [(0, .ref v0), (1, .int v1)] [] h 0 0) (kE97 : ∀ z : Int32, o = .inr (.inr z) → V M_X9_seatFurther x 0 97 [(0, .ref v0), (1, .int v1), (2, .ref v2), (4, .int z)] [] h 0 0) : V M_X9_seatFurther x 0 71 [(0, .ref v0), (1, .int v1), (2, .ref v2), (4, .int v4)] [] h 0 0 := by
  unfold F_X9_seatFurther_l71 at e
  refine V_iload (pc := 71) (i := 4) dX9_seatFurther_71 rfl ?_
  refine V_aload_n (pc := 73) (i := 2) dX9_seatFurther_73 rfl rfl ?_
  obtain ⟨g6, e⟩ := gd_some e
  refine V_getI (pc := 74) (ci := 2) (k := 0) dX9_seatFurther_74 fl_X9_81 rfl (of_decide_eq_true g6) ?_
  refine V_icmp_ge (pc := 77) (tgt := 170) dX9_seatFurther_77 (by decide) (fun c17 => ?_) (fun c17 => ?_)
  · rw [if_pos c17] at e
    cases e
    exact V_pick [0, 1] rfl (kE170 _ rfl)
  · rw [if_neg c17] at e
    refine V_pick [0, 1, 2, 3] rfl ?_
    refine V_aload_n (pc := 80) (i := 0) dX9_seatFurther_80 rfl rfl ?_
    obtain ⟨g7, e⟩ := gd_some e
    obtain ⟨q8, g9, e⟩ := ob_some e
    refine V_getR (pc := 81) (ci := 8) (k := 1) (b := q8) dX9_seatFurther_81 fl_X9_15 rfl (of_decide_eq_true g7) g9 ?_
    refine V_iload (pc := 84) (i := 4) dX9_seatFurther_84 rfl ?_
    obtain ⟨g10, e⟩ := gd_some e
    obtain ⟨g11, e⟩ := gd_some e
    refine V_iald (pc := 86) dX9_seatFurther_86 (of_decide_eq_true g10) (ix_in g11) ?_
    refine V_aload_n (pc := 87) (i := 2) dX9_seatFurther_87 rfl rfl ?_
    obtain ⟨q12, g13, e⟩ := ob_some e
    refine V_getR (pc := 88) (ci := 2) (k := 3) (b := q12) dX9_seatFurther_88 fl_X9_84 rfl (of_decide_eq_true g6) g13 ?_
    refine V_iload (pc := 91) (i := 4) dX9_seatFurther_91 rfl ?_
    obtain ⟨g14, e⟩ := gd_some e
    obtain ⟨g15, e⟩ := gd_some e
    refine V_iald (pc := 93) dX9_seatFurther_93 (of_decide_eq_true g14) (ix_in g15) ?_
    refine V_icmp_ge (pc := 94) (tgt := 164) dX9_seatFurther_94 (by decide) (fun c16 => ?_) (fun c16 => ?_)
    · rw [if_pos c16] at e
      refine V_pick [0, 1, 2, 3] rfl ?_
      refine V_iinc (pc := 164) (i := 4) (u := v4 + (1 : Int32)) (lv' := [(4, .int (v4 + (1 : Int32))), (0, .ref v0), (1, .int v1), (2, .ref v2)]) dX9_seatFurther_164 rfl rfl (by decide) rfl ?_
      refine V_goto (pc := 167) (tgt := 71) dX9_seatFurther_167 (by decide) ?_
      cases e
      exact V_pick [1, 2, 3, 0] rfl (kI _ rfl)
    · rw [if_neg c16] at e
      cases e
      exact V_pick [0, 1, 2, 3] rfl (kE97 _ rfl)
set_option maxRecDepth 100000 in
def F_X9_seatFurther_b66 (v0 : Nat) (v1 : Int32) (v2 : Nat) (v3 : Int32) (h : Hp) : Option (Int32 × Hp) :=
  ob (iter (fun z : Int32 => F_X9_seatFurther_l71 v0 v1 v2 z h) FU (v3 + (1 : Int32))) (fun z => sm z (fun _ => gd (decide (kd h v0 = 8)) <| ob (zR h v0 0) fun q19 => gd (decide (kd h q19 = 13)) <| gd (ix v1 (zl h q19)) <| some ((0 : Int32), setI h q19 (v1).toNatClampNeg (-1 : Int32))) (fun w23 => gd (decide (kd h v0 = 8)) <| ob (zR h v0 0) fun q25 => gd (decide (kd h q25 = 13)) <| gd (ix v1 (zl h q25)) <| ob (zR (setI h q25 (v1).toNatClampNeg w23) v0 1) fun q29 => gd (decide (kd (setI h q25 (v1).toNatClampNeg w23) q29 = 13)) <| gd (ix w23 (zl (setI h q25 (v1).toNatClampNeg w23) q29)) <| gd (ix w23 (zl (setI h q25 (v1).toNatClampNeg w23) q29)) <| gd (decide (kd (setI (setI h q25 (v1).toNatClampNeg w23) q29 (w23).toNatClampNeg ((zI (setI h q25 (v1).toNatClampNeg w23) q29 (w23).toNatClampNeg) + (1 : Int32))) v2 = 2)) <| ob (zR (setI (setI h q25 (v1).toNatClampNeg w23) q29 (w23).toNatClampNeg ((zI (setI h q25 (v1).toNatClampNeg w23) q29 (w23).toNatClampNeg) + (1 : Int32))) v2 6) fun q35 => gd (decide (kd (setI (setI h q25 (v1).toNatClampNeg w23) q29 (w23).toNatClampNeg ((zI (setI h q25 (v1).toNatClampNeg w23) q29 (w23).toNatClampNeg) + (1 : Int32))) q35 = 13)) <| gd (ix v1 (zl (setI (setI h q25 (v1).toNatClampNeg w23) q29 (w23).toNatClampNeg ((zI (setI h q25 (v1).toNatClampNeg w23) q29 (w23).toNatClampNeg) + (1 : Int32))) q35)) <| ob (zR (setI (setI h q25 (v1).toNatClampNeg w23) q29 (w23).toNatClampNeg ((zI (setI h q25 (v1).toNatClampNeg w23) q29 (w23).toNatClampNeg) + (1 : Int32))) v2 1) fun q39 => gd (decide (kd (setI (setI h q25 (v1).toNatClampNeg w23) q29 (w23).toNatClampNeg ((zI (setI h q25 (v1).toNatClampNeg w23) q29 (w23).toNatClampNeg) + (1 : Int32))) q39 = 13)) <| gd (ix w23 (zl (setI (setI h q25 (v1).toNatClampNeg w23) q29 (w23).toNatClampNeg ((zI (setI h q25 (v1).toNatClampNeg w23) q29 (w23).toNatClampNeg) + (1 : Int32))) q39)) <| ob (zR (setI (setI (setI h q25 (v1).toNatClampNeg w23) q29 (w23).toNatClampNeg ((zI (setI h q25 (v1).toNatClampNeg w23) q29 (w23).toNatClampNeg) + (1 : Int32))) v0 3 ((zI (setI (setI h q25 (v1).toNatClampNeg w23) q29 (w23).toNatClampNeg ((zI (setI h q25 (v1).toNatClampNeg w23) q29 (w23).toNatClampNeg) + (1 : Int32))) v0 3) + ((zI (setI (setI h q25 (v1).toNatClampNeg w23) q29 (w23).toNatClampNeg ((zI (setI h q25 (v1).toNatClampNeg w23) q29 (w23).toNatClampNeg) + (1 : Int32))) q35 (v1).toNatClampNeg) * (zI (setI (setI h q25 (v1).toNatClampNeg w23) q29 (w23).toNatClampNeg ((zI (setI h q25 (v1).toNatClampNeg w23) q29 (w23).toNatClampNeg) + (1 : Int32))) q39 (w23).toNatClampNeg)))) v2 6) fun q43 => gd (decide (kd (setI (setI (setI h q25 (v1).toNatClampNeg w23) q29 (w23).toNatClampNeg ((zI (setI h q25 (v1).toNatClampNeg w23) q29 (w23).toNatClampNeg) + (1 : Int32))) v0 3 ((zI (setI (setI h q25 (v1).toNatClampNeg w23) q29 (w23).toNatClampNeg ((zI (setI h q25 (v1).toNatClampNeg w23) q29 (w23).toNatClampNeg) + (1 : Int32))) v0 3) + ((zI (setI (setI h q25 (v1).toNatClampNeg w23) q29 (w23).toNatClampNeg ((zI (setI h q25 (v1).toNatClampNeg w23) q29 (w23).toNatClampNeg) + (1 : Int32))) q35 (v1).toNatClampNeg) * (zI (setI (setI h q25 (v1).toNatClampNeg w23) q29 (w23).toNatClampNeg ((zI (setI h q25 (v1).toNatClampNeg w23) q29 (w23).toNatClampNeg) + (1 : Int32))) q39 (w23).toNatClampNeg)))) q43 = 13)) <| gd (ix v1 (zl (setI (setI (setI h q25 (v1).toNatClampNeg w23) q29 (w23).toNatClampNeg ((zI (setI h q25 (v1).toNatClampNeg w23) q29 (w23).toNatClampNeg) + (1 : Int32))) v0 3 ((zI (setI (setI h q25 (v1).toNatClampNeg w23) q29 (w23).toNatClampNeg ((zI (setI h q25 (v1).toNatClampNeg w23) q29 (w23).toNatClampNeg) + (1 : Int32))) v0 3) + ((zI (setI (setI h q25 (v1).toNatClampNeg w23) q29 (w23).toNatClampNeg ((zI (setI h q25 (v1).toNatClampNeg w23) q29 (w23).toNatClampNeg) + (1 : Int32))) q35 (v1).toNatClampNeg) * (zI (setI (setI h q25 (v1).toNatClampNeg w23) q29 (w23).toNatClampNeg ((zI (setI h q25 (v1).toNatClampNeg w23) q29 (w23).toNatClampNeg) + (1 : Int32))) q39 (w23).toNatClampNeg)))) q43)) <| ob (zR (setI (setI (setI h q25 (v1).toNatClampNeg w23) q29 (w23).toNatClampNeg ((zI (setI h q25 (v1).toNatClampNeg w23) q29 (w23).toNatClampNeg) + (1 : Int32))) v0 3 ((zI (setI (setI h q25 (v1).toNatClampNeg w23) q29 (w23).toNatClampNeg ((zI (setI h q25 (v1).toNatClampNeg w23) q29 (w23).toNatClampNeg) + (1 : Int32))) v0 3) + ((zI (setI (setI h q25 (v1).toNatClampNeg w23) q29 (w23).toNatClampNeg ((zI (setI h q25 (v1).toNatClampNeg w23) q29 (w23).toNatClampNeg) + (1 : Int32))) q35 (v1).toNatClampNeg) * (zI (setI (setI h q25 (v1).toNatClampNeg w23) q29 (w23).toNatClampNeg ((zI (setI h q25 (v1).toNatClampNeg w23) q29 (w23).toNatClampNeg) + (1 : Int32))) q39 (w23).toNatClampNeg)))) v2 2) fun q47 => gd (decide (kd (setI (setI (setI h q25 (v1).toNatClampNeg w23) q29 (w23).toNatClampNeg ((zI (setI h q25 (v1).toNatClampNeg w23) q29 (w23).toNatClampNeg) + (1 : Int32))) v0 3 ((zI (setI (setI h q25 (v1).toNatClampNeg w23) q29 (w23).toNatClampNeg ((zI (setI h q25 (v1).toNatClampNeg w23) q29 (w23).toNatClampNeg) + (1 : Int32))) v0 3) + ((zI (setI (setI h q25 (v1).toNatClampNeg w23) q29 (w23).toNatClampNeg ((zI (setI h q25 (v1).toNatClampNeg w23) q29 (w23).toNatClampNeg) + (1 : Int32))) q35 (v1).toNatClampNeg) * (zI (setI (setI h q25 (v1).toNatClampNeg w23) q29 (w23).toNatClampNeg ((zI (setI h q25 (v1).toNatClampNeg w23) q29 (w23).toNatClampNeg) + (1 : Int32))) q39 (w23).toNatClampNeg)))) q47 = 13)) <| gd (ix w23 (zl (setI (setI (setI h q25 (v1).toNatClampNeg w23) q29 (w23).toNatClampNeg ((zI (setI h q25 (v1).toNatClampNeg w23) q29 (w23).toNatClampNeg) + (1 : Int32))) v0 3 ((zI (setI (setI h q25 (v1).toNatClampNeg w23) q29 (w23).toNatClampNeg ((zI (setI h q25 (v1).toNatClampNeg w23) q29 (w23).toNatClampNeg) + (1 : Int32))) v0 3) + ((zI (setI (setI h q25 (v1).toNatClampNeg w23) q29 (w23).toNatClampNeg ((zI (setI h q25 (v1).toNatClampNeg w23) q29 (w23).toNatClampNeg) + (1 : Int32))) q35 (v1).toNatClampNeg) * (zI (setI (setI h q25 (v1).toNatClampNeg w23) q29 (w23).toNatClampNeg ((zI (setI h q25 (v1).toNatClampNeg w23) q29 (w23).toNatClampNeg) + (1 : Int32))) q39 (w23).toNatClampNeg)))) q47)) <| some ((1 : Int32), setI (setI (setI (setI h q25 (v1).toNatClampNeg w23) q29 (w23).toNatClampNeg ((zI (setI h q25 (v1).toNatClampNeg w23) q29 (w23).toNatClampNeg) + (1 : Int32))) v0 3 ((zI (setI (setI h q25 (v1).toNatClampNeg w23) q29 (w23).toNatClampNeg ((zI (setI h q25 (v1).toNatClampNeg w23) q29 (w23).toNatClampNeg) + (1 : Int32))) v0 3) + ((zI (setI (setI h q25 (v1).toNatClampNeg w23) q29 (w23).toNatClampNeg ((zI (setI h q25 (v1).toNatClampNeg w23) q29 (w23).toNatClampNeg) + (1 : Int32))) q35 (v1).toNatClampNeg) * (zI (setI (setI h q25 (v1).toNatClampNeg w23) q29 (w23).toNatClampNeg ((zI (setI h q25 (v1).toNatClampNeg w23) q29 (w23).toNatClampNeg) + (1 : Int32))) q39 (w23).toNatClampNeg)))) v0 4 ((zI (setI (setI (setI h q25 (v1).toNatClampNeg w23) q29 (w23).toNatClampNeg ((zI (setI h q25 (v1).toNatClampNeg w23) q29 (w23).toNatClampNeg) + (1 : Int32))) v0 3 ((zI (setI (setI h q25 (v1).toNatClampNeg w23) q29 (w23).toNatClampNeg ((zI (setI h q25 (v1).toNatClampNeg w23) q29 (w23).toNatClampNeg) + (1 : Int32))) v0 3) + ((zI (setI (setI h q25 (v1).toNatClampNeg w23) q29 (w23).toNatClampNeg ((zI (setI h q25 (v1).toNatClampNeg w23) q29 (w23).toNatClampNeg) + (1 : Int32))) q35 (v1).toNatClampNeg) * (zI (setI (setI h q25 (v1).toNatClampNeg w23) q29 (w23).toNatClampNeg ((zI (setI h q25 (v1).toNatClampNeg w23) q29 (w23).toNatClampNeg) + (1 : Int32))) q39 (w23).toNatClampNeg)))) v0 4) + ((zI (setI (setI (setI h q25 (v1).toNatClampNeg w23) q29 (w23).toNatClampNeg ((zI (setI h q25 (v1).toNatClampNeg w23) q29 (w23).toNatClampNeg) + (1 : Int32))) v0 3 ((zI (setI (setI h q25 (v1).toNatClampNeg w23) q29 (w23).toNatClampNeg ((zI (setI h q25 (v1).toNatClampNeg w23) q29 (w23).toNatClampNeg) + (1 : Int32))) v0 3) + ((zI (setI (setI h q25 (v1).toNatClampNeg w23) q29 (w23).toNatClampNeg ((zI (setI h q25 (v1).toNatClampNeg w23) q29 (w23).toNatClampNeg) + (1 : Int32))) q35 (v1).toNatClampNeg) * (zI (setI (setI h q25 (v1).toNatClampNeg w23) q29 (w23).toNatClampNeg ((zI (setI h q25 (v1).toNatClampNeg w23) q29 (w23).toNatClampNeg) + (1 : Int32))) q39 (w23).toNatClampNeg)))) q43 (v1).toNatClampNeg) * (zI (setI (setI (setI h q25 (v1).toNatClampNeg w23) q29 (w23).toNatClampNeg ((zI (setI h q25 (v1).toNatClampNeg w23) q29 (w23).toNatClampNeg) + (1 : Int32))) v0 3 ((zI (setI (setI h q25 (v1).toNatClampNeg w23) q29 (w23).toNatClampNeg ((zI (setI h q25 (v1).toNatClampNeg w23) q29 (w23).toNatClampNeg) + (1 : Int32))) v0 3) + ((zI (setI (setI h q25 (v1).toNatClampNeg w23) q29 (w23).toNatClampNeg ((zI (setI h q25 (v1).toNatClampNeg w23) q29 (w23).toNatClampNeg) + (1 : Int32))) q35 (v1).toNatClampNeg) * (zI (setI (setI h q25 (v1).toNatClampNeg w23) q29 (w23).toNatClampNeg ((zI (setI h q25 (v1).toNatClampNeg w23) q29 (w23).toNatClampNeg) + (1 : Int32))) q39 (w23).toNatClampNeg)))) q47 (w23).toNatClampNeg))))))
set_option maxHeartbeats 4000000 in
set_option maxRecDepth 100000 in
theorem r_X9_seatFurther_b66 (v0 : Nat) (v1 : Int32) (v2 : Nat) (v3 : Int32) (h : Hp) {x : Cx} {r : Int32} {hz : Hp} (e : F_X9_seatFurther_b66 v0 v1 v2 v3 h = some (r, hz)) (hF : Fin9 M_X9_seatFurther x (some .boolean) (some (.int r)) hz) : V M_X9_seatFurther x 0 66 [(0, .ref v0), (1, .int v1), (2, .ref v2), (3, .int v3)] [] h 0 0 := by
  unfold F_X9_seatFurther_b66 at e
  refine V_iload_n (pc := 66) (i := 3) dX9_seatFurther_66 rfl rfl ?_
  refine V_iconst (pc := 67) (v := (1 : Int32)) dX9_seatFurther_67 (by decide) ?_
  refine V_iadd (pc := 68) dX9_seatFurther_68 ?_
  refine V_istore (pc := 69) (i := 4) (lv' := [(4, .int (v3 + (1 : Int32))), (0, .ref v0), (1, .int v1), (2, .ref v2), (3, .int v3)]) dX9_seatFurther_69 (by decide) rfl ?_
  refine V_pick [1, 2, 3, 0] rfl ?_
  obtain ⟨y51, g52, e⟩ := ob_some e
  refine iter_V (P := fun z : Int32 => V M_X9_seatFurther x 0 71 [(0, .ref v0), (1, .int v1), (2, .ref v2), (4, .int z)] [] h 0 0) (E := fun z => Sum.elim (fun z : Unit => V M_X9_seatFurther x 0 170 [(0, .ref v0), (1, .int v1)] [] h 0 0) (fun z : Int32 => V M_X9_seatFurther x 0 97 [(0, .ref v0), (1, .int v1), (2, .ref v2), (4, .int z)] [] h 0 0) z) (fun z o e9 k1 k2 => r_X9_seatFurther_l71 v0 v1 v2 z h e9 (fun z hz9 => k1 z hz9) (fun z hz9 => k2 _ hz9) (fun z hz9 => k2 _ hz9)) _ _ _ g52 ?_
  clear g52
  rcases y51 with y53 | y54
  · replace e : (gd (decide (kd h v0 = 8)) <| ob (zR h v0 0) fun q19 => gd (decide (kd h q19 = 13)) <| gd (ix v1 (zl h q19)) <| some ((0 : Int32), setI h q19 (v1).toNatClampNeg (-1 : Int32))) = some (r, hz) := e
    show V M_X9_seatFurther x 0 170 [(0, .ref v0), (1, .int v1)] [] h 0 0
    refine V_aload_n (pc := 170) (i := 0) dX9_seatFurther_170 rfl rfl ?_
    obtain ⟨g18, e⟩ := gd_some e
    obtain ⟨q19, g20, e⟩ := ob_some e
    refine V_getR (pc := 171) (ci := 8) (k := 0) (b := q19) dX9_seatFurther_171 fl_X9_9 rfl (of_decide_eq_true g18) g20 ?_
    refine V_iload_n (pc := 174) (i := 1) dX9_seatFurther_174 rfl rfl ?_
    refine V_iconst (pc := 175) (v := (-1 : Int32)) dX9_seatFurther_175 (by decide) ?_
    obtain ⟨g21, e⟩ := gd_some e
    obtain ⟨g22, e⟩ := gd_some e
    refine V_iast (pc := 176) dX9_seatFurther_176 (of_decide_eq_true g21) (ix_in g22) ?_
    refine V_iconst (pc := 177) (v := (0 : Int32)) dX9_seatFurther_177 (by decide) ?_
    cases e
    exact V_zret (pc := 178) dX9_seatFurther_178 rfl hF
  · obtain ⟨w23, rfl⟩ : ∃ q, q = y54 := ⟨_, rfl⟩
    replace e : (gd (decide (kd h v0 = 8)) <| ob (zR h v0 0) fun q25 => gd (decide (kd h q25 = 13)) <| gd (ix v1 (zl h q25)) <| ob (zR (setI h q25 (v1).toNatClampNeg w23) v0 1) fun q29 => gd (decide (kd (setI h q25 (v1).toNatClampNeg w23) q29 = 13)) <| gd (ix w23 (zl (setI h q25 (v1).toNatClampNeg w23) q29)) <| gd (ix w23 (zl (setI h q25 (v1).toNatClampNeg w23) q29)) <| gd (decide (kd (setI (setI h q25 (v1).toNatClampNeg w23) q29 (w23).toNatClampNeg ((zI (setI h q25 (v1).toNatClampNeg w23) q29 (w23).toNatClampNeg) + (1 : Int32))) v2 = 2)) <| ob (zR (setI (setI h q25 (v1).toNatClampNeg w23) q29 (w23).toNatClampNeg ((zI (setI h q25 (v1).toNatClampNeg w23) q29 (w23).toNatClampNeg) + (1 : Int32))) v2 6) fun q35 => gd (decide (kd (setI (setI h q25 (v1).toNatClampNeg w23) q29 (w23).toNatClampNeg ((zI (setI h q25 (v1).toNatClampNeg w23) q29 (w23).toNatClampNeg) + (1 : Int32))) q35 = 13)) <| gd (ix v1 (zl (setI (setI h q25 (v1).toNatClampNeg w23) q29 (w23).toNatClampNeg ((zI (setI h q25 (v1).toNatClampNeg w23) q29 (w23).toNatClampNeg) + (1 : Int32))) q35)) <| ob (zR (setI (setI h q25 (v1).toNatClampNeg w23) q29 (w23).toNatClampNeg ((zI (setI h q25 (v1).toNatClampNeg w23) q29 (w23).toNatClampNeg) + (1 : Int32))) v2 1) fun q39 => gd (decide (kd (setI (setI h q25 (v1).toNatClampNeg w23) q29 (w23).toNatClampNeg ((zI (setI h q25 (v1).toNatClampNeg w23) q29 (w23).toNatClampNeg) + (1 : Int32))) q39 = 13)) <| gd (ix w23 (zl (setI (setI h q25 (v1).toNatClampNeg w23) q29 (w23).toNatClampNeg ((zI (setI h q25 (v1).toNatClampNeg w23) q29 (w23).toNatClampNeg) + (1 : Int32))) q39)) <| ob (zR (setI (setI (setI h q25 (v1).toNatClampNeg w23) q29 (w23).toNatClampNeg ((zI (setI h q25 (v1).toNatClampNeg w23) q29 (w23).toNatClampNeg) + (1 : Int32))) v0 3 ((zI (setI (setI h q25 (v1).toNatClampNeg w23) q29 (w23).toNatClampNeg ((zI (setI h q25 (v1).toNatClampNeg w23) q29 (w23).toNatClampNeg) + (1 : Int32))) v0 3) + ((zI (setI (setI h q25 (v1).toNatClampNeg w23) q29 (w23).toNatClampNeg ((zI (setI h q25 (v1).toNatClampNeg w23) q29 (w23).toNatClampNeg) + (1 : Int32))) q35 (v1).toNatClampNeg) * (zI (setI (setI h q25 (v1).toNatClampNeg w23) q29 (w23).toNatClampNeg ((zI (setI h q25 (v1).toNatClampNeg w23) q29 (w23).toNatClampNeg) + (1 : Int32))) q39 (w23).toNatClampNeg)))) v2 6) fun q43 => gd (decide (kd (setI (setI (setI h q25 (v1).toNatClampNeg w23) q29 (w23).toNatClampNeg ((zI (setI h q25 (v1).toNatClampNeg w23) q29 (w23).toNatClampNeg) + (1 : Int32))) v0 3 ((zI (setI (setI h q25 (v1).toNatClampNeg w23) q29 (w23).toNatClampNeg ((zI (setI h q25 (v1).toNatClampNeg w23) q29 (w23).toNatClampNeg) + (1 : Int32))) v0 3) + ((zI (setI (setI h q25 (v1).toNatClampNeg w23) q29 (w23).toNatClampNeg ((zI (setI h q25 (v1).toNatClampNeg w23) q29 (w23).toNatClampNeg) + (1 : Int32))) q35 (v1).toNatClampNeg) * (zI (setI (setI h q25 (v1).toNatClampNeg w23) q29 (w23).toNatClampNeg ((zI (setI h q25 (v1).toNatClampNeg w23) q29 (w23).toNatClampNeg) + (1 : Int32))) q39 (w23).toNatClampNeg)))) q43 = 13)) <| gd (ix v1 (zl (setI (setI (setI h q25 (v1).toNatClampNeg w23) q29 (w23).toNatClampNeg ((zI (setI h q25 (v1).toNatClampNeg w23) q29 (w23).toNatClampNeg) + (1 : Int32))) v0 3 ((zI (setI (setI h q25 (v1).toNatClampNeg w23) q29 (w23).toNatClampNeg ((zI (setI h q25 (v1).toNatClampNeg w23) q29 (w23).toNatClampNeg) + (1 : Int32))) v0 3) + ((zI (setI (setI h q25 (v1).toNatClampNeg w23) q29 (w23).toNatClampNeg ((zI (setI h q25 (v1).toNatClampNeg w23) q29 (w23).toNatClampNeg) + (1 : Int32))) q35 (v1).toNatClampNeg) * (zI (setI (setI h q25 (v1).toNatClampNeg w23) q29 (w23).toNatClampNeg ((zI (setI h q25 (v1).toNatClampNeg w23) q29 (w23).toNatClampNeg) + (1 : Int32))) q39 (w23).toNatClampNeg)))) q43)) <| ob (zR (setI (setI (setI h q25 (v1).toNatClampNeg w23) q29 (w23).toNatClampNeg ((zI (setI h q25 (v1).toNatClampNeg w23) q29 (w23).toNatClampNeg) + (1 : Int32))) v0 3 ((zI (setI (setI h q25 (v1).toNatClampNeg w23) q29 (w23).toNatClampNeg ((zI (setI h q25 (v1).toNatClampNeg w23) q29 (w23).toNatClampNeg) + (1 : Int32))) v0 3) + ((zI (setI (setI h q25 (v1).toNatClampNeg w23) q29 (w23).toNatClampNeg ((zI (setI h q25 (v1).toNatClampNeg w23) q29 (w23).toNatClampNeg) + (1 : Int32))) q35 (v1).toNatClampNeg) * (zI (setI (setI h q25 (v1).toNatClampNeg w23) q29 (w23).toNatClampNeg ((zI (setI h q25 (v1).toNatClampNeg w23) q29 (w23).toNatClampNeg) + (1 : Int32))) q39 (w23).toNatClampNeg)))) v2 2) fun q47 => gd (decide (kd (setI (setI (setI h q25 (v1).toNatClampNeg w23) q29 (w23).toNatClampNeg ((zI (setI h q25 (v1).toNatClampNeg w23) q29 (w23).toNatClampNeg) + (1 : Int32))) v0 3 ((zI (setI (setI h q25 (v1).toNatClampNeg w23) q29 (w23).toNatClampNeg ((zI (setI h q25 (v1).toNatClampNeg w23) q29 (w23).toNatClampNeg) + (1 : Int32))) v0 3) + ((zI (setI (setI h q25 (v1).toNatClampNeg w23) q29 (w23).toNatClampNeg ((zI (setI h q25 (v1).toNatClampNeg w23) q29 (w23).toNatClampNeg) + (1 : Int32))) q35 (v1).toNatClampNeg) * (zI (setI (setI h q25 (v1).toNatClampNeg w23) q29 (w23).toNatClampNeg ((zI (setI h q25 (v1).toNatClampNeg w23) q29 (w23).toNatClampNeg) + (1 : Int32))) q39 (w23).toNatClampNeg)))) q47 = 13)) <| gd (ix w23 (zl (setI (setI (setI h q25 (v1).toNatClampNeg w23) q29 (w23).toNatClampNeg ((zI (setI h q25 (v1).toNatClampNeg w23) q29 (w23).toNatClampNeg) + (1 : Int32))) v0 3 ((zI (setI (setI h q25 (v1).toNatClampNeg w23) q29 (w23).toNatClampNeg ((zI (setI h q25 (v1).toNatClampNeg w23) q29 (w23).toNatClampNeg) + (1 : Int32))) v0 3) + ((zI (setI (setI h q25 (v1).toNatClampNeg w23) q29 (w23).toNatClampNeg ((zI (setI h q25 (v1).toNatClampNeg w23) q29 (w23).toNatClampNeg) + (1 : Int32))) q35 (v1).toNatClampNeg) * (zI (setI (setI h q25 (v1).toNatClampNeg w23) q29 (w23).toNatClampNeg ((zI (setI h q25 (v1).toNatClampNeg w23) q29 (w23).toNatClampNeg) + (1 : Int32))) q39 (w23).toNatClampNeg)))) q47)) <| some ((1 : Int32), setI (setI (setI (setI h q25 (v1).toNatClampNeg w23) q29 (w23).toNatClampNeg ((zI (setI h q25 (v1).toNatClampNeg w23) q29 (w23).toNatClampNeg) + (1 : Int32))) v0 3 ((zI (setI (setI h q25 (v1).toNatClampNeg w23) q29 (w23).toNatClampNeg ((zI (setI h q25 (v1).toNatClampNeg w23) q29 (w23).toNatClampNeg) + (1 : Int32))) v0 3) + ((zI (setI (setI h q25 (v1).toNatClampNeg w23) q29 (w23).toNatClampNeg ((zI (setI h q25 (v1).toNatClampNeg w23) q29 (w23).toNatClampNeg) + (1 : Int32))) q35 (v1).toNatClampNeg) * (zI (setI (setI h q25 (v1).toNatClampNeg w23) q29 (w23).toNatClampNeg ((zI (setI h q25 (v1).toNatClampNeg w23) q29 (w23).toNatClampNeg) + (1 : Int32))) q39 (w23).toNatClampNeg)))) v0 4 ((zI (setI (setI (setI h q25 (v1).toNatClampNeg w23) q29 (w23).toNatClampNeg ((zI (setI h q25 (v1).toNatClampNeg w23) q29 (w23).toNatClampNeg) + (1 : Int32))) v0 3 ((zI (setI (setI h q25 (v1).toNatClampNeg w23) q29 (w23).toNatClampNeg ((zI (setI h q25 (v1).toNatClampNeg w23) q29 (w23).toNatClampNeg) + (1 : Int32))) v0 3) + ((zI (setI (setI h q25 (v1).toNatClampNeg w23) q29 (w23).toNatClampNeg ((zI (setI h q25 (v1).toNatClampNeg w23) q29 (w23).toNatClampNeg) + (1 : Int32))) q35 (v1).toNatClampNeg) * (zI (setI (setI h q25 (v1).toNatClampNeg w23) q29 (w23).toNatClampNeg ((zI (setI h q25 (v1).toNatClampNeg w23) q29 (w23).toNatClampNeg) + (1 : Int32))) q39 (w23).toNatClampNeg)))) v0 4) + ((zI (setI (setI (setI h q25 (v1).toNatClampNeg w23) q29 (w23).toNatClampNeg ((zI (setI h q25 (v1).toNatClampNeg w23) q29 (w23).toNatClampNeg) + (1 : Int32))) v0 3 ((zI (setI (setI h q25 (v1).toNatClampNeg w23) q29 (w23).toNatClampNeg ((zI (setI h q25 (v1).toNatClampNeg w23) q29 (w23).toNatClampNeg) + (1 : Int32))) v0 3) + ((zI (setI (setI h q25 (v1).toNatClampNeg w23) q29 (w23).toNatClampNeg ((zI (setI h q25 (v1).toNatClampNeg w23) q29 (w23).toNatClampNeg) + (1 : Int32))) q35 (v1).toNatClampNeg) * (zI (setI (setI h q25 (v1).toNatClampNeg w23) q29 (w23).toNatClampNeg ((zI (setI h q25 (v1).toNatClampNeg w23) q29 (w23).toNatClampNeg) + (1 : Int32))) q39 (w23).toNatClampNeg)))) q43 (v1).toNatClampNeg) * (zI (setI (setI (setI h q25 (v1).toNatClampNeg w23) q29 (w23).toNatClampNeg ((zI (setI h q25 (v1).toNatClampNeg w23) q29 (w23).toNatClampNeg) + (1 : Int32))) v0 3 ((zI (setI (setI h q25 (v1).toNatClampNeg w23) q29 (w23).toNatClampNeg ((zI (setI h q25 (v1).toNatClampNeg w23) q29 (w23).toNatClampNeg) + (1 : Int32))) v0 3) + ((zI (setI (setI h q25 (v1).toNatClampNeg w23) q29 (w23).toNatClampNeg ((zI (setI h q25 (v1).toNatClampNeg w23) q29 (w23).toNatClampNeg) + (1 : Int32))) q35 (v1).toNatClampNeg) * (zI (setI (setI h q25 (v1).toNatClampNeg w23) q29 (w23).toNatClampNeg ((zI (setI h q25 (v1).toNatClampNeg w23) q29 (w23).toNatClampNeg) + (1 : Int32))) q39 (w23).toNatClampNeg)))) q47 (w23).toNatClampNeg))))) = some (r, hz) := e
    show V M_X9_seatFurther x 0 97 [(0, .ref v0), (1, .int v1), (2, .ref v2), (4, .int w23)] [] h 0 0
    refine V_aload_n (pc := 97) (i := 0) dX9_seatFurther_97 rfl rfl ?_
    obtain ⟨g24, e⟩ := gd_some e
    obtain ⟨q25, g26, e⟩ := ob_some e
    refine V_getR (pc := 98) (ci := 8) (k := 0) (b := q25) dX9_seatFurther_98 fl_X9_9 rfl (of_decide_eq_true g24) g26 ?_
    refine V_iload_n (pc := 101) (i := 1) dX9_seatFurther_101 rfl rfl ?_
    refine V_iload (pc := 102) (i := 4) dX9_seatFurther_102 rfl ?_
    obtain ⟨g27, e⟩ := gd_some e
    obtain ⟨g28, e⟩ := gd_some e
    refine V_iast (pc := 104) dX9_seatFurther_104 (of_decide_eq_true g27) (ix_in g28) ?_
    refine V_aload_n (pc := 105) (i := 0) dX9_seatFurther_105 rfl rfl ?_
    obtain ⟨q29, g30, e⟩ := ob_some e
    refine V_getR (pc := 106) (ci := 8) (k := 1) (b := q29) dX9_seatFurther_106 fl_X9_15 rfl (of_decide_eq_true g24) g30 ?_
    refine V_iload (pc := 109) (i := 4) dX9_seatFurther_109 rfl ?_
    refine V_dup2 (pc := 111) dX9_seatFurther_111 rfl rfl ?_
    obtain ⟨g31, e⟩ := gd_some e
    obtain ⟨g32, e⟩ := gd_some e
    refine V_iald (pc := 112) dX9_seatFurther_112 (of_decide_eq_true g31) (ix_in g32) ?_
    refine V_iconst (pc := 113) (v := (1 : Int32)) dX9_seatFurther_113 (by decide) ?_
    refine V_iadd (pc := 114) dX9_seatFurther_114 ?_
    obtain ⟨g33, e⟩ := gd_some e
    refine V_iast (pc := 115) dX9_seatFurther_115 (of_decide_eq_true g31) (ix_in g33) ?_
    refine V_aload_n (pc := 116) (i := 0) dX9_seatFurther_116 rfl rfl ?_
    refine V_dup (pc := 117) dX9_seatFurther_117 rfl ?_
    refine V_getI (pc := 118) (ci := 8) (k := 3) dX9_seatFurther_118 fl_X9_22 rfl (of_decide_eq_true g24) ?_
    refine V_aload_n (pc := 121) (i := 2) dX9_seatFurther_121 rfl rfl ?_
    obtain ⟨g34, e⟩ := gd_some e
    obtain ⟨q35, g36, e⟩ := ob_some e
    refine V_getR (pc := 122) (ci := 2) (k := 6) (b := q35) dX9_seatFurther_122 fl_X9_78 rfl (of_decide_eq_true g34) g36 ?_
    refine V_iload_n (pc := 125) (i := 1) dX9_seatFurther_125 rfl rfl ?_
    obtain ⟨g37, e⟩ := gd_some e
    obtain ⟨g38, e⟩ := gd_some e
    refine V_iald (pc := 126) dX9_seatFurther_126 (of_decide_eq_true g37) (ix_in g38) ?_
    refine V_aload_n (pc := 127) (i := 2) dX9_seatFurther_127 rfl rfl ?_
    obtain ⟨q39, g40, e⟩ := ob_some e
    refine V_getR (pc := 128) (ci := 2) (k := 1) (b := q39) dX9_seatFurther_128 fl_X9_44 rfl (of_decide_eq_true g34) g40 ?_
    refine V_iload (pc := 131) (i := 4) dX9_seatFurther_131 rfl ?_
    obtain ⟨g41, e⟩ := gd_some e
    obtain ⟨g42, e⟩ := gd_some e
    refine V_iald (pc := 133) dX9_seatFurther_133 (of_decide_eq_true g41) (ix_in g42) ?_
    refine V_imul (pc := 134) dX9_seatFurther_134 ?_
    refine V_iadd (pc := 135) dX9_seatFurther_135 ?_
    refine V_putI (pc := 136) (ci := 8) (k := 3) dX9_seatFurther_136 fp_X9_22 rfl (of_decide_eq_true g24) ?_
    refine V_aload_n (pc := 139) (i := 0) dX9_seatFurther_139 rfl rfl ?_
    refine V_dup (pc := 140) dX9_seatFurther_140 rfl ?_
    refine V_getI (pc := 141) (ci := 8) (k := 4) dX9_seatFurther_141 fl_X9_26 rfl (of_decide_eq_true g24) ?_
    refine V_aload_n (pc := 144) (i := 2) dX9_seatFurther_144 rfl rfl ?_
    obtain ⟨q43, g44, e⟩ := ob_some e
    refine V_getR (pc := 145) (ci := 2) (k := 6) (b := q43) dX9_seatFurther_145 fl_X9_78 rfl (of_decide_eq_true g34) g44 ?_
    refine V_iload_n (pc := 148) (i := 1) dX9_seatFurther_148 rfl rfl ?_
    obtain ⟨g45, e⟩ := gd_some e
    obtain ⟨g46, e⟩ := gd_some e
    refine V_iald (pc := 149) dX9_seatFurther_149 (of_decide_eq_true g45) (ix_in g46) ?_
    refine V_aload_n (pc := 150) (i := 2) dX9_seatFurther_150 rfl rfl ?_
    obtain ⟨q47, g48, e⟩ := ob_some e
    refine V_getR (pc := 151) (ci := 2) (k := 2) (b := q47) dX9_seatFurther_151 fl_X9_53 rfl (of_decide_eq_true g34) g48 ?_
    refine V_iload (pc := 154) (i := 4) dX9_seatFurther_154 rfl ?_
    obtain ⟨g49, e⟩ := gd_some e
    obtain ⟨g50, e⟩ := gd_some e
    refine V_iald (pc := 156) dX9_seatFurther_156 (of_decide_eq_true g49) (ix_in g50) ?_
    refine V_imul (pc := 157) dX9_seatFurther_157 ?_
    refine V_iadd (pc := 158) dX9_seatFurther_158 ?_
    refine V_putI (pc := 159) (ci := 8) (k := 4) dX9_seatFurther_159 fp_X9_26 rfl (of_decide_eq_true g24) ?_
    refine V_iconst (pc := 162) (v := (1 : Int32)) dX9_seatFurther_162 (by decide) ?_
    cases e
    exact V_zret (pc := 163) dX9_seatFurther_163 rfl hF
set_option maxRecDepth 100000 in
def F_X9_seatFurther_b0 (v0 : Nat) (v1 : Int32) (v2 : Nat) (h : Hp) : Option (Int32 × Hp) :=
  gd (decide (kd h v0 = 8)) <| ob (zR h v0 0) fun q2 => gd (decide (kd h q2 = 13)) <| gd (ix v1 (zl h q2)) <| (if (zI h q2 (v1).toNatClampNeg) = (-1 : Int32) then F_X9_seatFurther_b66 v0 v1 v2 (zI h q2 (v1).toNatClampNeg) h else ob (zR h v0 1) fun q55 => gd (decide (kd h q55 = 13)) <| gd (ix (zI h q2 (v1).toNatClampNeg) (zl h q55)) <| gd (ix (zI h q2 (v1).toNatClampNeg) (zl h q55)) <| gd (decide (kd (setI h q55 (zI h q2 (v1).toNatClampNeg).toNatClampNeg ((zI h q55 (zI h q2 (v1).toNatClampNeg).toNatClampNeg) - (1 : Int32))) v2 = 2)) <| ob (zR (setI h q55 (zI h q2 (v1).toNatClampNeg).toNatClampNeg ((zI h q55 (zI h q2 (v1).toNatClampNeg).toNatClampNeg) - (1 : Int32))) v2 6) fun q61 => gd (decide (kd (setI h q55 (zI h q2 (v1).toNatClampNeg).toNatClampNeg ((zI h q55 (zI h q2 (v1).toNatClampNeg).toNatClampNeg) - (1 : Int32))) q61 = 13)) <| gd (ix v1 (zl (setI h q55 (zI h q2 (v1).toNatClampNeg).toNatClampNeg ((zI h q55 (zI h q2 (v1).toNatClampNeg).toNatClampNeg) - (1 : Int32))) q61)) <| ob (zR (setI h q55 (zI h q2 (v1).toNatClampNeg).toNatClampNeg ((zI h q55 (zI h q2 (v1).toNatClampNeg).toNatClampNeg) - (1 : Int32))) v2 1) fun q65 => gd (decide (kd (setI h q55 (zI h q2 (v1).toNatClampNeg).toNatClampNeg ((zI h q55 (zI h q2 (v1).toNatClampNeg).toNatClampNeg) - (1 : Int32))) q65 = 13)) <| gd (ix (zI h q2 (v1).toNatClampNeg) (zl (setI h q55 (zI h q2 (v1).toNatClampNeg).toNatClampNeg ((zI h q55 (zI h q2 (v1).toNatClampNeg).toNatClampNeg) - (1 : Int32))) q65)) <| ob (zR (setI (setI h q55 (zI h q2 (v1).toNatClampNeg).toNatClampNeg ((zI h q55 (zI h q2 (v1).toNatClampNeg).toNatClampNeg) - (1 : Int32))) v0 3 ((zI (setI h q55 (zI h q2 (v1).toNatClampNeg).toNatClampNeg ((zI h q55 (zI h q2 (v1).toNatClampNeg).toNatClampNeg) - (1 : Int32))) v0 3) - ((zI (setI h q55 (zI h q2 (v1).toNatClampNeg).toNatClampNeg ((zI h q55 (zI h q2 (v1).toNatClampNeg).toNatClampNeg) - (1 : Int32))) q61 (v1).toNatClampNeg) * (zI (setI h q55 (zI h q2 (v1).toNatClampNeg).toNatClampNeg ((zI h q55 (zI h q2 (v1).toNatClampNeg).toNatClampNeg) - (1 : Int32))) q65 (zI h q2 (v1).toNatClampNeg).toNatClampNeg)))) v2 6) fun q69 => gd (decide (kd (setI (setI h q55 (zI h q2 (v1).toNatClampNeg).toNatClampNeg ((zI h q55 (zI h q2 (v1).toNatClampNeg).toNatClampNeg) - (1 : Int32))) v0 3 ((zI (setI h q55 (zI h q2 (v1).toNatClampNeg).toNatClampNeg ((zI h q55 (zI h q2 (v1).toNatClampNeg).toNatClampNeg) - (1 : Int32))) v0 3) - ((zI (setI h q55 (zI h q2 (v1).toNatClampNeg).toNatClampNeg ((zI h q55 (zI h q2 (v1).toNatClampNeg).toNatClampNeg) - (1 : Int32))) q61 (v1).toNatClampNeg) * (zI (setI h q55 (zI h q2 (v1).toNatClampNeg).toNatClampNeg ((zI h q55 (zI h q2 (v1).toNatClampNeg).toNatClampNeg) - (1 : Int32))) q65 (zI h q2 (v1).toNatClampNeg).toNatClampNeg)))) q69 = 13)) <| gd (ix v1 (zl (setI (setI h q55 (zI h q2 (v1).toNatClampNeg).toNatClampNeg ((zI h q55 (zI h q2 (v1).toNatClampNeg).toNatClampNeg) - (1 : Int32))) v0 3 ((zI (setI h q55 (zI h q2 (v1).toNatClampNeg).toNatClampNeg ((zI h q55 (zI h q2 (v1).toNatClampNeg).toNatClampNeg) - (1 : Int32))) v0 3) - ((zI (setI h q55 (zI h q2 (v1).toNatClampNeg).toNatClampNeg ((zI h q55 (zI h q2 (v1).toNatClampNeg).toNatClampNeg) - (1 : Int32))) q61 (v1).toNatClampNeg) * (zI (setI h q55 (zI h q2 (v1).toNatClampNeg).toNatClampNeg ((zI h q55 (zI h q2 (v1).toNatClampNeg).toNatClampNeg) - (1 : Int32))) q65 (zI h q2 (v1).toNatClampNeg).toNatClampNeg)))) q69)) <| ob (zR (setI (setI h q55 (zI h q2 (v1).toNatClampNeg).toNatClampNeg ((zI h q55 (zI h q2 (v1).toNatClampNeg).toNatClampNeg) - (1 : Int32))) v0 3 ((zI (setI h q55 (zI h q2 (v1).toNatClampNeg).toNatClampNeg ((zI h q55 (zI h q2 (v1).toNatClampNeg).toNatClampNeg) - (1 : Int32))) v0 3) - ((zI (setI h q55 (zI h q2 (v1).toNatClampNeg).toNatClampNeg ((zI h q55 (zI h q2 (v1).toNatClampNeg).toNatClampNeg) - (1 : Int32))) q61 (v1).toNatClampNeg) * (zI (setI h q55 (zI h q2 (v1).toNatClampNeg).toNatClampNeg ((zI h q55 (zI h q2 (v1).toNatClampNeg).toNatClampNeg) - (1 : Int32))) q65 (zI h q2 (v1).toNatClampNeg).toNatClampNeg)))) v2 2) fun q73 => gd (decide (kd (setI (setI h q55 (zI h q2 (v1).toNatClampNeg).toNatClampNeg ((zI h q55 (zI h q2 (v1).toNatClampNeg).toNatClampNeg) - (1 : Int32))) v0 3 ((zI (setI h q55 (zI h q2 (v1).toNatClampNeg).toNatClampNeg ((zI h q55 (zI h q2 (v1).toNatClampNeg).toNatClampNeg) - (1 : Int32))) v0 3) - ((zI (setI h q55 (zI h q2 (v1).toNatClampNeg).toNatClampNeg ((zI h q55 (zI h q2 (v1).toNatClampNeg).toNatClampNeg) - (1 : Int32))) q61 (v1).toNatClampNeg) * (zI (setI h q55 (zI h q2 (v1).toNatClampNeg).toNatClampNeg ((zI h q55 (zI h q2 (v1).toNatClampNeg).toNatClampNeg) - (1 : Int32))) q65 (zI h q2 (v1).toNatClampNeg).toNatClampNeg)))) q73 = 13)) <| gd (ix (zI h q2 (v1).toNatClampNeg) (zl (setI (setI h q55 (zI h q2 (v1).toNatClampNeg).toNatClampNeg ((zI h q55 (zI h q2 (v1).toNatClampNeg).toNatClampNeg) - (1 : Int32))) v0 3 ((zI (setI h q55 (zI h q2 (v1).toNatClampNeg).toNatClampNeg ((zI h q55 (zI h q2 (v1).toNatClampNeg).toNatClampNeg) - (1 : Int32))) v0 3) - ((zI (setI h q55 (zI h q2 (v1).toNatClampNeg).toNatClampNeg ((zI h q55 (zI h q2 (v1).toNatClampNeg).toNatClampNeg) - (1 : Int32))) q61 (v1).toNatClampNeg) * (zI (setI h q55 (zI h q2 (v1).toNatClampNeg).toNatClampNeg ((zI h q55 (zI h q2 (v1).toNatClampNeg).toNatClampNeg) - (1 : Int32))) q65 (zI h q2 (v1).toNatClampNeg).toNatClampNeg)))) q73)) <| F_X9_seatFurther_b66 v0 v1 v2 (zI h q2 (v1).toNatClampNeg) (setI (setI (setI h q55 (zI h q2 (v1).toNatClampNeg).toNatClampNeg ((zI h q55 (zI h q2 (v1).toNatClampNeg).toNatClampNeg) - (1 : Int32))) v0 3 ((zI (setI h q55 (zI h q2 (v1).toNatClampNeg).toNatClampNeg ((zI h q55 (zI h q2 (v1).toNatClampNeg).toNatClampNeg) - (1 : Int32))) v0 3) - ((zI (setI h q55 (zI h q2 (v1).toNatClampNeg).toNatClampNeg ((zI h q55 (zI h q2 (v1).toNatClampNeg).toNatClampNeg) - (1 : Int32))) q61 (v1).toNatClampNeg) * (zI (setI h q55 (zI h q2 (v1).toNatClampNeg).toNatClampNeg ((zI h q55 (zI h q2 (v1).toNatClampNeg).toNatClampNeg) - (1 : Int32))) q65 (zI h q2 (v1).toNatClampNeg).toNatClampNeg)))) v0 4 ((zI (setI (setI h q55 (zI h q2 (v1).toNatClampNeg).toNatClampNeg ((zI h q55 (zI h q2 (v1).toNatClampNeg).toNatClampNeg) - (1 : Int32))) v0 3 ((zI (setI h q55 (zI h q2 (v1).toNatClampNeg).toNatClampNeg ((zI h q55 (zI h q2 (v1).toNatClampNeg).toNatClampNeg) - (1 : Int32))) v0 3) - ((zI (setI h q55 (zI h q2 (v1).toNatClampNeg).toNatClampNeg ((zI h q55 (zI h q2 (v1).toNatClampNeg).toNatClampNeg) - (1 : Int32))) q61 (v1).toNatClampNeg) * (zI (setI h q55 (zI h q2 (v1).toNatClampNeg).toNatClampNeg ((zI h q55 (zI h q2 (v1).toNatClampNeg).toNatClampNeg) - (1 : Int32))) q65 (zI h q2 (v1).toNatClampNeg).toNatClampNeg)))) v0 4) - ((zI (setI (setI h q55 (zI h q2 (v1).toNatClampNeg).toNatClampNeg ((zI h q55 (zI h q2 (v1).toNatClampNeg).toNatClampNeg) - (1 : Int32))) v0 3 ((zI (setI h q55 (zI h q2 (v1).toNatClampNeg).toNatClampNeg ((zI h q55 (zI h q2 (v1).toNatClampNeg).toNatClampNeg) - (1 : Int32))) v0 3) - ((zI (setI h q55 (zI h q2 (v1).toNatClampNeg).toNatClampNeg ((zI h q55 (zI h q2 (v1).toNatClampNeg).toNatClampNeg) - (1 : Int32))) q61 (v1).toNatClampNeg) * (zI (setI h q55 (zI h q2 (v1).toNatClampNeg).toNatClampNeg ((zI h q55 (zI h q2 (v1).toNatClampNeg).toNatClampNeg) - (1 : Int32))) q65 (zI h q2 (v1).toNatClampNeg).toNatClampNeg)))) q69 (v1).toNatClampNeg) * (zI (setI (setI h q55 (zI h q2 (v1).toNatClampNeg).toNatClampNeg ((zI h q55 (zI h q2 (v1).toNatClampNeg).toNatClampNeg) - (1 : Int32))) v0 3 ((zI (setI h q55 (zI h q2 (v1).toNatClampNeg).toNatClampNeg ((zI h q55 (zI h q2 (v1).toNatClampNeg).toNatClampNeg) - (1 : Int32))) v0 3) - ((zI (setI h q55 (zI h q2 (v1).toNatClampNeg).toNatClampNeg ((zI h q55 (zI h q2 (v1).toNatClampNeg).toNatClampNeg) - (1 : Int32))) q61 (v1).toNatClampNeg) * (zI (setI h q55 (zI h q2 (v1).toNatClampNeg).toNatClampNeg ((zI h q55 (zI h q2 (v1).toNatClampNeg).toNatClampNeg) - (1 : Int32))) q65 (zI h q2 (v1).toNatClampNeg).toNatClampNeg)))) q73 (zI h q2 (v1).toNatClampNeg).toNatClampNeg)))))
set_option maxHeartbeats 4000000 in
set_option maxRecDepth 100000 in
theorem r_X9_seatFurther_b0 (v0 : Nat) (v1 : Int32) (v2 : Nat) (h : Hp) {x : Cx} {r : Int32} {hz : Hp} (e : F_X9_seatFurther_b0 v0 v1 v2 h = some (r, hz)) (hF : Fin9 M_X9_seatFurther x (some .boolean) (some (.int r)) hz) : V M_X9_seatFurther x 0 0 [(0, .ref v0), (1, .int v1), (2, .ref v2)] [] h 0 0 := by
  unfold F_X9_seatFurther_b0 at e
  refine V_aload_n (pc := 0) (i := 0) dX9_seatFurther_0 rfl rfl ?_
  obtain ⟨g1, e⟩ := gd_some e
  obtain ⟨q2, g3, e⟩ := ob_some e
  refine V_getR (pc := 1) (ci := 8) (k := 0) (b := q2) dX9_seatFurther_1 fl_X9_9 rfl (of_decide_eq_true g1) g3 ?_
  refine V_iload_n (pc := 4) (i := 1) dX9_seatFurther_4 rfl rfl ?_
  obtain ⟨g4, e⟩ := gd_some e
  obtain ⟨g5, e⟩ := gd_some e
  refine V_iald (pc := 5) dX9_seatFurther_5 (of_decide_eq_true g4) (ix_in g5) ?_
  refine V_istore_n (pc := 6) (i := 3) (lv' := [(3, .int (zI h q2 (v1).toNatClampNeg)), (0, .ref v0), (1, .int v1), (2, .ref v2)]) dX9_seatFurther_6 rfl (by decide) rfl ?_
  refine V_iload_n (pc := 7) (i := 3) dX9_seatFurther_7 rfl rfl ?_
  refine V_iconst (pc := 8) (v := (-1 : Int32)) dX9_seatFurther_8 (by decide) ?_
  refine V_icmp_eq (pc := 9) (tgt := 66) dX9_seatFurther_9 (by decide) (fun c77 => ?_) (fun c77 => ?_)
  · rw [if_pos c77] at e
    exact V_pick [1, 2, 3, 0] rfl (r_X9_seatFurther_b66 v0 v1 v2 (zI h q2 (v1).toNatClampNeg) h e hF)
  · rw [if_neg c77] at e
    refine V_pick [1, 2, 3, 0] rfl ?_
    refine V_aload_n (pc := 12) (i := 0) dX9_seatFurther_12 rfl rfl ?_
    obtain ⟨q55, g56, e⟩ := ob_some e
    refine V_getR (pc := 13) (ci := 8) (k := 1) (b := q55) dX9_seatFurther_13 fl_X9_15 rfl (of_decide_eq_true g1) g56 ?_
    refine V_iload_n (pc := 16) (i := 3) dX9_seatFurther_16 rfl rfl ?_
    refine V_dup2 (pc := 17) dX9_seatFurther_17 rfl rfl ?_
    obtain ⟨g57, e⟩ := gd_some e
    obtain ⟨g58, e⟩ := gd_some e
    refine V_iald (pc := 18) dX9_seatFurther_18 (of_decide_eq_true g57) (ix_in g58) ?_
    refine V_iconst (pc := 19) (v := (1 : Int32)) dX9_seatFurther_19 (by decide) ?_
    refine V_isub (pc := 20) dX9_seatFurther_20 ?_
    obtain ⟨g59, e⟩ := gd_some e
    refine V_iast (pc := 21) dX9_seatFurther_21 (of_decide_eq_true g57) (ix_in g59) ?_
    refine V_aload_n (pc := 22) (i := 0) dX9_seatFurther_22 rfl rfl ?_
    refine V_dup (pc := 23) dX9_seatFurther_23 rfl ?_
    refine V_getI (pc := 24) (ci := 8) (k := 3) dX9_seatFurther_24 fl_X9_22 rfl (of_decide_eq_true g1) ?_
    refine V_aload_n (pc := 27) (i := 2) dX9_seatFurther_27 rfl rfl ?_
    obtain ⟨g60, e⟩ := gd_some e
    obtain ⟨q61, g62, e⟩ := ob_some e
    refine V_getR (pc := 28) (ci := 2) (k := 6) (b := q61) dX9_seatFurther_28 fl_X9_78 rfl (of_decide_eq_true g60) g62 ?_
    refine V_iload_n (pc := 31) (i := 1) dX9_seatFurther_31 rfl rfl ?_
    obtain ⟨g63, e⟩ := gd_some e
    obtain ⟨g64, e⟩ := gd_some e
    refine V_iald (pc := 32) dX9_seatFurther_32 (of_decide_eq_true g63) (ix_in g64) ?_
    refine V_aload_n (pc := 33) (i := 2) dX9_seatFurther_33 rfl rfl ?_
    obtain ⟨q65, g66, e⟩ := ob_some e
    refine V_getR (pc := 34) (ci := 2) (k := 1) (b := q65) dX9_seatFurther_34 fl_X9_44 rfl (of_decide_eq_true g60) g66 ?_
    refine V_iload_n (pc := 37) (i := 3) dX9_seatFurther_37 rfl rfl ?_
    obtain ⟨g67, e⟩ := gd_some e
    obtain ⟨g68, e⟩ := gd_some e
    refine V_iald (pc := 38) dX9_seatFurther_38 (of_decide_eq_true g67) (ix_in g68) ?_
    refine V_imul (pc := 39) dX9_seatFurther_39 ?_
    refine V_isub (pc := 40) dX9_seatFurther_40 ?_
    refine V_putI (pc := 41) (ci := 8) (k := 3) dX9_seatFurther_41 fp_X9_22 rfl (of_decide_eq_true g1) ?_
    refine V_aload_n (pc := 44) (i := 0) dX9_seatFurther_44 rfl rfl ?_
    refine V_dup (pc := 45) dX9_seatFurther_45 rfl ?_
    refine V_getI (pc := 46) (ci := 8) (k := 4) dX9_seatFurther_46 fl_X9_26 rfl (of_decide_eq_true g1) ?_
    refine V_aload_n (pc := 49) (i := 2) dX9_seatFurther_49 rfl rfl ?_
    obtain ⟨q69, g70, e⟩ := ob_some e
    refine V_getR (pc := 50) (ci := 2) (k := 6) (b := q69) dX9_seatFurther_50 fl_X9_78 rfl (of_decide_eq_true g60) g70 ?_
    refine V_iload_n (pc := 53) (i := 1) dX9_seatFurther_53 rfl rfl ?_
    obtain ⟨g71, e⟩ := gd_some e
    obtain ⟨g72, e⟩ := gd_some e
    refine V_iald (pc := 54) dX9_seatFurther_54 (of_decide_eq_true g71) (ix_in g72) ?_
    refine V_aload_n (pc := 55) (i := 2) dX9_seatFurther_55 rfl rfl ?_
    obtain ⟨q73, g74, e⟩ := ob_some e
    refine V_getR (pc := 56) (ci := 2) (k := 2) (b := q73) dX9_seatFurther_56 fl_X9_53 rfl (of_decide_eq_true g60) g74 ?_
    refine V_iload_n (pc := 59) (i := 3) dX9_seatFurther_59 rfl rfl ?_
    obtain ⟨g75, e⟩ := gd_some e
    obtain ⟨g76, e⟩ := gd_some e
    refine V_iald (pc := 60) dX9_seatFurther_60 (of_decide_eq_true g75) (ix_in g76) ?_
    refine V_imul (pc := 61) dX9_seatFurther_61 ?_
    refine V_isub (pc := 62) dX9_seatFurther_62 ?_
    refine V_putI (pc := 63) (ci := 8) (k := 4) dX9_seatFurther_63 fp_X9_26 rfl (of_decide_eq_true g1) ?_
    exact V_pick [0, 1, 2, 3] rfl (r_X9_seatFurther_b66 v0 v1 v2 (zI h q2 (v1).toNatClampNeg) (setI (setI (setI h q55 (zI h q2 (v1).toNatClampNeg).toNatClampNeg ((zI h q55 (zI h q2 (v1).toNatClampNeg).toNatClampNeg) - (1 : Int32))) v0 3 ((zI (setI h q55 (zI h q2 (v1).toNatClampNeg).toNatClampNeg ((zI h q55 (zI h q2 (v1).toNatClampNeg).toNatClampNeg) - (1 : Int32))) v0 3) - ((zI (setI h q55 (zI h q2 (v1).toNatClampNeg).toNatClampNeg ((zI h q55 (zI h q2 (v1).toNatClampNeg).toNatClampNeg) - (1 : Int32))) q61 (v1).toNatClampNeg) * (zI (setI h q55 (zI h q2 (v1).toNatClampNeg).toNatClampNeg ((zI h q55 (zI h q2 (v1).toNatClampNeg).toNatClampNeg) - (1 : Int32))) q65 (zI h q2 (v1).toNatClampNeg).toNatClampNeg)))) v0 4 ((zI (setI (setI h q55 (zI h q2 (v1).toNatClampNeg).toNatClampNeg ((zI h q55 (zI h q2 (v1).toNatClampNeg).toNatClampNeg) - (1 : Int32))) v0 3 ((zI (setI h q55 (zI h q2 (v1).toNatClampNeg).toNatClampNeg ((zI h q55 (zI h q2 (v1).toNatClampNeg).toNatClampNeg) - (1 : Int32))) v0 3) - ((zI (setI h q55 (zI h q2 (v1).toNatClampNeg).toNatClampNeg ((zI h q55 (zI h q2 (v1).toNatClampNeg).toNatClampNeg) - (1 : Int32))) q61 (v1).toNatClampNeg) * (zI (setI h q55 (zI h q2 (v1).toNatClampNeg).toNatClampNeg ((zI h q55 (zI h q2 (v1).toNatClampNeg).toNatClampNeg) - (1 : Int32))) q65 (zI h q2 (v1).toNatClampNeg).toNatClampNeg)))) v0 4) - ((zI (setI (setI h q55 (zI h q2 (v1).toNatClampNeg).toNatClampNeg ((zI h q55 (zI h q2 (v1).toNatClampNeg).toNatClampNeg) - (1 : Int32))) v0 3 ((zI (setI h q55 (zI h q2 (v1).toNatClampNeg).toNatClampNeg ((zI h q55 (zI h q2 (v1).toNatClampNeg).toNatClampNeg) - (1 : Int32))) v0 3) - ((zI (setI h q55 (zI h q2 (v1).toNatClampNeg).toNatClampNeg ((zI h q55 (zI h q2 (v1).toNatClampNeg).toNatClampNeg) - (1 : Int32))) q61 (v1).toNatClampNeg) * (zI (setI h q55 (zI h q2 (v1).toNatClampNeg).toNatClampNeg ((zI h q55 (zI h q2 (v1).toNatClampNeg).toNatClampNeg) - (1 : Int32))) q65 (zI h q2 (v1).toNatClampNeg).toNatClampNeg)))) q69 (v1).toNatClampNeg) * (zI (setI (setI h q55 (zI h q2 (v1).toNatClampNeg).toNatClampNeg ((zI h q55 (zI h q2 (v1).toNatClampNeg).toNatClampNeg) - (1 : Int32))) v0 3 ((zI (setI h q55 (zI h q2 (v1).toNatClampNeg).toNatClampNeg ((zI h q55 (zI h q2 (v1).toNatClampNeg).toNatClampNeg) - (1 : Int32))) v0 3) - ((zI (setI h q55 (zI h q2 (v1).toNatClampNeg).toNatClampNeg ((zI h q55 (zI h q2 (v1).toNatClampNeg).toNatClampNeg) - (1 : Int32))) q61 (v1).toNatClampNeg) * (zI (setI h q55 (zI h q2 (v1).toNatClampNeg).toNatClampNeg ((zI h q55 (zI h q2 (v1).toNatClampNeg).toNatClampNeg) - (1 : Int32))) q65 (zI h q2 (v1).toNatClampNeg).toNatClampNeg)))) q73 (zI h q2 (v1).toNatClampNeg).toNatClampNeg)))) e hF)
def F_X9_seatFurther (v0 : Nat) (v1 : Int32) (v2 : Nat) (h : Hp) : Option (Int32 × Hp) := F_X9_seatFurther_b0 v0 v1 v2 h
theorem c_X9_seatFurther {l : Launch} (v0 : Nat) (v1 : Int32) (v2 : Nat) (h : Hp) {r : Int32} {hz : Hp} (e : F_X9_seatFurther v0 v1 v2 h = some (r, hz)) : Ct l yX9_seatFurther M_X9_seatFurther (some .boolean) 0 [.ref v0, .int v1, .ref v2] h 0 0 (some (.int r)) hz :=
  Ct_of rfl rfl (fun q => by cases q) (Nat.le_of_ble_eq_true rfl) (fun x _ hF => V_pick [0, 1, 2] rfl (r_X9_seatFurther_b0 v0 v1 v2 h e hF))
theorem dX9_isLevelNow_0 : decode cX9_isLevelNow 0 = .ok (.aload_n 0, 1) := by decide +kernel
theorem dX9_isLevelNow_1 : decode cX9_isLevelNow 1 = .ok (.getfield 22, 3) := by decide +kernel
theorem dX9_isLevelNow_4 : decode cX9_isLevelNow 4 = .ok (.aload_n 0, 1) := by decide +kernel
theorem dX9_isLevelNow_5 : decode cX9_isLevelNow 5 = .ok (.getfield 29, 3) := by decide +kernel
theorem dX9_isLevelNow_8 : decode cX9_isLevelNow 8 = .ok (.iadd, 1) := by decide +kernel
theorem dX9_isLevelNow_9 : decode cX9_isLevelNow 9 = .ok (.aload_n 0, 1) := by decide +kernel
theorem dX9_isLevelNow_10 : decode cX9_isLevelNow 10 = .ok (.getfield 41, 3) := by decide +kernel
theorem dX9_isLevelNow_13 : decode cX9_isLevelNow 13 = .ok (.ineg, 1) := by decide +kernel
theorem dX9_isLevelNow_14 : decode cX9_isLevelNow 14 = .ok (.if_icmp .lt 56, 3) := by decide +kernel
theorem dX9_isLevelNow_17 : decode cX9_isLevelNow 17 = .ok (.aload_n 0, 1) := by decide +kernel
theorem dX9_isLevelNow_18 : decode cX9_isLevelNow 18 = .ok (.getfield 22, 3) := by decide +kernel
theorem dX9_isLevelNow_21 : decode cX9_isLevelNow 21 = .ok (.aload_n 0, 1) := by decide +kernel
theorem dX9_isLevelNow_22 : decode cX9_isLevelNow 22 = .ok (.getfield 32, 3) := by decide +kernel
theorem dX9_isLevelNow_25 : decode cX9_isLevelNow 25 = .ok (.iadd, 1) := by decide +kernel
theorem dX9_isLevelNow_26 : decode cX9_isLevelNow 26 = .ok (.aload_n 0, 1) := by decide +kernel
theorem dX9_isLevelNow_27 : decode cX9_isLevelNow 27 = .ok (.getfield 41, 3) := by decide +kernel
theorem dX9_isLevelNow_30 : decode cX9_isLevelNow 30 = .ok (.if_icmp .gt 40, 3) := by decide +kernel
theorem dX9_isLevelNow_33 : decode cX9_isLevelNow 33 = .ok (.aload_n 0, 1) := by decide +kernel
theorem dX9_isLevelNow_34 : decode cX9_isLevelNow 34 = .ok (.getfield 26, 3) := by decide +kernel
theorem dX9_isLevelNow_37 : decode cX9_isLevelNow 37 = .ok (.aload_n 0, 1) := by decide +kernel
theorem dX9_isLevelNow_38 : decode cX9_isLevelNow 38 = .ok (.getfield 35, 3) := by decide +kernel
theorem dX9_isLevelNow_41 : decode cX9_isLevelNow 41 = .ok (.iadd, 1) := by decide +kernel
theorem dX9_isLevelNow_42 : decode cX9_isLevelNow 42 = .ok (.aload_n 0, 1) := by decide +kernel
theorem dX9_isLevelNow_43 : decode cX9_isLevelNow 43 = .ok (.getfield 41, 3) := by decide +kernel
theorem dX9_isLevelNow_46 : decode cX9_isLevelNow 46 = .ok (.ineg, 1) := by decide +kernel
theorem dX9_isLevelNow_47 : decode cX9_isLevelNow 47 = .ok (.if_icmp .lt 23, 3) := by decide +kernel
theorem dX9_isLevelNow_50 : decode cX9_isLevelNow 50 = .ok (.aload_n 0, 1) := by decide +kernel
theorem dX9_isLevelNow_51 : decode cX9_isLevelNow 51 = .ok (.getfield 26, 3) := by decide +kernel
theorem dX9_isLevelNow_54 : decode cX9_isLevelNow 54 = .ok (.aload_n 0, 1) := by decide +kernel
theorem dX9_isLevelNow_55 : decode cX9_isLevelNow 55 = .ok (.getfield 38, 3) := by decide +kernel
theorem dX9_isLevelNow_58 : decode cX9_isLevelNow 58 = .ok (.iadd, 1) := by decide +kernel
theorem dX9_isLevelNow_59 : decode cX9_isLevelNow 59 = .ok (.aload_n 0, 1) := by decide +kernel
theorem dX9_isLevelNow_60 : decode cX9_isLevelNow 60 = .ok (.getfield 41, 3) := by decide +kernel
theorem dX9_isLevelNow_63 : decode cX9_isLevelNow 63 = .ok (.if_icmp .gt 7, 3) := by decide +kernel
theorem dX9_isLevelNow_66 : decode cX9_isLevelNow 66 = .ok (.iconst 1, 1) := by decide +kernel
theorem dX9_isLevelNow_67 : decode cX9_isLevelNow 67 = .ok (.goto 4, 3) := by decide +kernel
theorem dX9_isLevelNow_70 : decode cX9_isLevelNow 70 = .ok (.iconst 0, 1) := by decide +kernel
theorem dX9_isLevelNow_71 : decode cX9_isLevelNow 71 = .ok (.ireturn, 1) := by decide +kernel
set_option maxRecDepth 100000 in
def F_X9_isLevelNow_b71 (t0 : Int32) (h : Hp) : Option Int32 :=
  gd (decide (t0 = 0 ∨ t0 = 1)) <| some t0
set_option maxHeartbeats 4000000 in
set_option maxRecDepth 100000 in
theorem r_X9_isLevelNow_b71 (t0 : Int32) (h : Hp) {x : Cx} {r : Int32} (e : F_X9_isLevelNow_b71 t0 h = some r) (hF : Fin9 M_X9_isLevelNow x (some .boolean) (some (.int r)) h) : V M_X9_isLevelNow x 0 71 [] [.int t0] h 0 0 := by
  unfold F_X9_isLevelNow_b71 at e
  obtain ⟨g2, e⟩ := gd_some e
  cases e
  exact V_zret (pc := 71) dX9_isLevelNow_71 (z01 (of_decide_eq_true g2)) hF
set_option maxRecDepth 100000 in
def F_X9_isLevelNow_b70  (h : Hp) : Option Int32 :=
  F_X9_isLevelNow_b71 (0 : Int32) h
set_option maxHeartbeats 4000000 in
set_option maxRecDepth 100000 in
theorem r_X9_isLevelNow_b70  (h : Hp) {x : Cx} {r : Int32} (e : F_X9_isLevelNow_b70  h = some r) (hF : Fin9 M_X9_isLevelNow x (some .boolean) (some (.int r)) h) : V M_X9_isLevelNow x 0 70 [] [] h 0 0 := by
  unfold F_X9_isLevelNow_b70 at e
  refine V_iconst (pc := 70) (v := (0 : Int32)) dX9_isLevelNow_70 (by decide) ?_
  exact V_pick [] rfl (r_X9_isLevelNow_b71 (0 : Int32) h e hF)
set_option maxRecDepth 100000 in
def F_X9_isLevelNow_b0 (v0 : Nat) (h : Hp) : Option Int32 :=
  gd (decide (kd h v0 = 8)) <| (if ((zI h v0 3) + (zI h v0 5)) < (0 - (zI h v0 9)) then F_X9_isLevelNow_b70 h else (if (zI h v0 9) < ((zI h v0 3) + (zI h v0 6)) then F_X9_isLevelNow_b70 h else (if ((zI h v0 4) + (zI h v0 7)) < (0 - (zI h v0 9)) then F_X9_isLevelNow_b70 h else (if (zI h v0 9) < ((zI h v0 4) + (zI h v0 8)) then F_X9_isLevelNow_b70 h else F_X9_isLevelNow_b71 (1 : Int32) h))))
set_option maxHeartbeats 4000000 in
set_option maxRecDepth 100000 in
theorem r_X9_isLevelNow_b0 (v0 : Nat) (h : Hp) {x : Cx} {r : Int32} (e : F_X9_isLevelNow_b0 v0 h = some r) (hF : Fin9 M_X9_isLevelNow x (some .boolean) (some (.int r)) h) : V M_X9_isLevelNow x 0 0 [(0, .ref v0)] [] h 0 0 := by
  unfold F_X9_isLevelNow_b0 at e
  refine V_aload_n (pc := 0) (i := 0) dX9_isLevelNow_0 rfl rfl ?_
  obtain ⟨g1, e⟩ := gd_some e
  refine V_getI (pc := 1) (ci := 8) (k := 3) dX9_isLevelNow_1 fl_X9_22 rfl (of_decide_eq_true g1) ?_
  refine V_aload_n (pc := 4) (i := 0) dX9_isLevelNow_4 rfl rfl ?_
  refine V_getI (pc := 5) (ci := 8) (k := 5) dX9_isLevelNow_5 fl_X9_29 rfl (of_decide_eq_true g1) ?_
  refine V_iadd (pc := 8) dX9_isLevelNow_8 ?_
  refine V_aload_n (pc := 9) (i := 0) dX9_isLevelNow_9 rfl rfl ?_
  refine V_getI (pc := 10) (ci := 8) (k := 9) dX9_isLevelNow_10 fl_X9_41 rfl (of_decide_eq_true g1) ?_
  refine V_ineg (pc := 13) dX9_isLevelNow_13 ?_
  refine V_icmp_lt (pc := 14) (tgt := 70) dX9_isLevelNow_14 (by decide) (fun c6 => ?_) (fun c6 => ?_)
  · rw [if_pos c6] at e
    exact V_pick [] rfl (r_X9_isLevelNow_b70 h e hF)
  · rw [if_neg c6] at e
    refine V_pick [0] rfl ?_
    refine V_aload_n (pc := 17) (i := 0) dX9_isLevelNow_17 rfl rfl ?_
    refine V_getI (pc := 18) (ci := 8) (k := 3) dX9_isLevelNow_18 fl_X9_22 rfl (of_decide_eq_true g1) ?_
    refine V_aload_n (pc := 21) (i := 0) dX9_isLevelNow_21 rfl rfl ?_
    refine V_getI (pc := 22) (ci := 8) (k := 6) dX9_isLevelNow_22 fl_X9_32 rfl (of_decide_eq_true g1) ?_
    refine V_iadd (pc := 25) dX9_isLevelNow_25 ?_
    refine V_aload_n (pc := 26) (i := 0) dX9_isLevelNow_26 rfl rfl ?_
    refine V_getI (pc := 27) (ci := 8) (k := 9) dX9_isLevelNow_27 fl_X9_41 rfl (of_decide_eq_true g1) ?_
    refine V_icmp_gt (pc := 30) (tgt := 70) dX9_isLevelNow_30 (by decide) (fun c5 => ?_) (fun c5 => ?_)
    · rw [if_pos c5] at e
      exact V_pick [] rfl (r_X9_isLevelNow_b70 h e hF)
    · rw [if_neg c5] at e
      refine V_pick [0] rfl ?_
      refine V_aload_n (pc := 33) (i := 0) dX9_isLevelNow_33 rfl rfl ?_
      refine V_getI (pc := 34) (ci := 8) (k := 4) dX9_isLevelNow_34 fl_X9_26 rfl (of_decide_eq_true g1) ?_
      refine V_aload_n (pc := 37) (i := 0) dX9_isLevelNow_37 rfl rfl ?_
      refine V_getI (pc := 38) (ci := 8) (k := 7) dX9_isLevelNow_38 fl_X9_35 rfl (of_decide_eq_true g1) ?_
      refine V_iadd (pc := 41) dX9_isLevelNow_41 ?_
      refine V_aload_n (pc := 42) (i := 0) dX9_isLevelNow_42 rfl rfl ?_
      refine V_getI (pc := 43) (ci := 8) (k := 9) dX9_isLevelNow_43 fl_X9_41 rfl (of_decide_eq_true g1) ?_
      refine V_ineg (pc := 46) dX9_isLevelNow_46 ?_
      refine V_icmp_lt (pc := 47) (tgt := 70) dX9_isLevelNow_47 (by decide) (fun c4 => ?_) (fun c4 => ?_)
      · rw [if_pos c4] at e
        exact V_pick [] rfl (r_X9_isLevelNow_b70 h e hF)
      · rw [if_neg c4] at e
        refine V_pick [0] rfl ?_
        refine V_aload_n (pc := 50) (i := 0) dX9_isLevelNow_50 rfl rfl ?_
        refine V_getI (pc := 51) (ci := 8) (k := 4) dX9_isLevelNow_51 fl_X9_26 rfl (of_decide_eq_true g1) ?_
        refine V_aload_n (pc := 54) (i := 0) dX9_isLevelNow_54 rfl rfl ?_
        refine V_getI (pc := 55) (ci := 8) (k := 8) dX9_isLevelNow_55 fl_X9_38 rfl (of_decide_eq_true g1) ?_
        refine V_iadd (pc := 58) dX9_isLevelNow_58 ?_
        refine V_aload_n (pc := 59) (i := 0) dX9_isLevelNow_59 rfl rfl ?_
        refine V_getI (pc := 60) (ci := 8) (k := 9) dX9_isLevelNow_60 fl_X9_41 rfl (of_decide_eq_true g1) ?_
        refine V_icmp_gt (pc := 63) (tgt := 70) dX9_isLevelNow_63 (by decide) (fun c3 => ?_) (fun c3 => ?_)
        · rw [if_pos c3] at e
          exact V_pick [] rfl (r_X9_isLevelNow_b70 h e hF)
        · rw [if_neg c3] at e
          refine V_pick [] rfl ?_
          refine V_iconst (pc := 66) (v := (1 : Int32)) dX9_isLevelNow_66 (by decide) ?_
          refine V_goto (pc := 67) (tgt := 71) dX9_isLevelNow_67 (by decide) ?_
          exact V_pick [] rfl (r_X9_isLevelNow_b71 (1 : Int32) h e hF)
def F_X9_isLevelNow (v0 : Nat) (h : Hp) : Option Int32 := F_X9_isLevelNow_b0 v0 h
theorem c_X9_isLevelNow {l : Launch} (v0 : Nat) (h : Hp) {r : Int32} (e : F_X9_isLevelNow v0 h = some r) : Ct l yX9_isLevelNow M_X9_isLevelNow (some .boolean) 0 [.ref v0] h 0 0 (some (.int r)) h :=
  Ct_of rfl rfl (fun q => by cases q) (Nat.le_of_ble_eq_true rfl) (fun x _ hF => V_pick [0] rfl (r_X9_isLevelNow_b0 v0 h e hF))
theorem dX9_isAt_0 : decode cX9_isAt 0 = .ok (.aload_n 0, 1) := by decide +kernel
theorem dX9_isAt_1 : decode cX9_isAt 1 = .ok (.getfield 22, 3) := by decide +kernel
theorem dX9_isAt_4 : decode cX9_isAt 4 = .ok (.iload_n 1, 1) := by decide +kernel
theorem dX9_isAt_5 : decode cX9_isAt 5 = .ok (.if_icmp .ne 15, 3) := by decide +kernel
theorem dX9_isAt_8 : decode cX9_isAt 8 = .ok (.aload_n 0, 1) := by decide +kernel
theorem dX9_isAt_9 : decode cX9_isAt 9 = .ok (.getfield 26, 3) := by decide +kernel
theorem dX9_isAt_12 : decode cX9_isAt 12 = .ok (.iload_n 2, 1) := by decide +kernel
theorem dX9_isAt_13 : decode cX9_isAt 13 = .ok (.if_icmp .ne 7, 3) := by decide +kernel
theorem dX9_isAt_16 : decode cX9_isAt 16 = .ok (.iconst 1, 1) := by decide +kernel
theorem dX9_isAt_17 : decode cX9_isAt 17 = .ok (.goto 4, 3) := by decide +kernel
theorem dX9_isAt_20 : decode cX9_isAt 20 = .ok (.iconst 0, 1) := by decide +kernel
theorem dX9_isAt_21 : decode cX9_isAt 21 = .ok (.ireturn, 1) := by decide +kernel
set_option maxRecDepth 100000 in
def F_X9_isAt_b21 (t0 : Int32) (h : Hp) : Option Int32 :=
  gd (decide (t0 = 0 ∨ t0 = 1)) <| some t0
set_option maxHeartbeats 4000000 in
set_option maxRecDepth 100000 in
theorem r_X9_isAt_b21 (t0 : Int32) (h : Hp) {x : Cx} {r : Int32} (e : F_X9_isAt_b21 t0 h = some r) (hF : Fin9 M_X9_isAt x (some .boolean) (some (.int r)) h) : V M_X9_isAt x 0 21 [] [.int t0] h 0 0 := by
  unfold F_X9_isAt_b21 at e
  obtain ⟨g2, e⟩ := gd_some e
  cases e
  exact V_zret (pc := 21) dX9_isAt_21 (z01 (of_decide_eq_true g2)) hF
set_option maxRecDepth 100000 in
def F_X9_isAt_b20  (h : Hp) : Option Int32 :=
  F_X9_isAt_b21 (0 : Int32) h
set_option maxHeartbeats 4000000 in
set_option maxRecDepth 100000 in
theorem r_X9_isAt_b20  (h : Hp) {x : Cx} {r : Int32} (e : F_X9_isAt_b20  h = some r) (hF : Fin9 M_X9_isAt x (some .boolean) (some (.int r)) h) : V M_X9_isAt x 0 20 [] [] h 0 0 := by
  unfold F_X9_isAt_b20 at e
  refine V_iconst (pc := 20) (v := (0 : Int32)) dX9_isAt_20 (by decide) ?_
  exact V_pick [] rfl (r_X9_isAt_b21 (0 : Int32) h e hF)
set_option maxRecDepth 100000 in
def F_X9_isAt_b0 (v0 : Nat) (v1 : Int32) (v2 : Int32) (h : Hp) : Option Int32 :=
  gd (decide (kd h v0 = 8)) <| (if (zI h v0 3) = v1 then (if (zI h v0 4) = v2 then F_X9_isAt_b21 (1 : Int32) h else F_X9_isAt_b20 h) else F_X9_isAt_b20 h)
set_option maxHeartbeats 4000000 in
set_option maxRecDepth 100000 in
theorem r_X9_isAt_b0 (v0 : Nat) (v1 : Int32) (v2 : Int32) (h : Hp) {x : Cx} {r : Int32} (e : F_X9_isAt_b0 v0 v1 v2 h = some r) (hF : Fin9 M_X9_isAt x (some .boolean) (some (.int r)) h) : V M_X9_isAt x 0 0 [(0, .ref v0), (1, .int v1), (2, .int v2)] [] h 0 0 := by
  unfold F_X9_isAt_b0 at e
  refine V_aload_n (pc := 0) (i := 0) dX9_isAt_0 rfl rfl ?_
  obtain ⟨g1, e⟩ := gd_some e
  refine V_getI (pc := 1) (ci := 8) (k := 3) dX9_isAt_1 fl_X9_22 rfl (of_decide_eq_true g1) ?_
  refine V_iload_n (pc := 4) (i := 1) dX9_isAt_4 rfl rfl ?_
  refine V_icmp_ne (pc := 5) (tgt := 20) dX9_isAt_5 (by decide) (fun c4 => ?_) (fun c4 => ?_)
  · rw [if_neg c4] at e
    exact V_pick [] rfl (r_X9_isAt_b20 h e hF)
  · rw [if_pos c4] at e
    refine V_pick [0, 2] rfl ?_
    refine V_aload_n (pc := 8) (i := 0) dX9_isAt_8 rfl rfl ?_
    refine V_getI (pc := 9) (ci := 8) (k := 4) dX9_isAt_9 fl_X9_26 rfl (of_decide_eq_true g1) ?_
    refine V_iload_n (pc := 12) (i := 2) dX9_isAt_12 rfl rfl ?_
    refine V_icmp_ne (pc := 13) (tgt := 20) dX9_isAt_13 (by decide) (fun c3 => ?_) (fun c3 => ?_)
    · rw [if_neg c3] at e
      exact V_pick [] rfl (r_X9_isAt_b20 h e hF)
    · rw [if_pos c3] at e
      refine V_pick [] rfl ?_
      refine V_iconst (pc := 16) (v := (1 : Int32)) dX9_isAt_16 (by decide) ?_
      refine V_goto (pc := 17) (tgt := 21) dX9_isAt_17 (by decide) ?_
      exact V_pick [] rfl (r_X9_isAt_b21 (1 : Int32) h e hF)
def F_X9_isAt (v0 : Nat) (v1 : Int32) (v2 : Int32) (h : Hp) : Option Int32 := F_X9_isAt_b0 v0 v1 v2 h
theorem c_X9_isAt {l : Launch} (v0 : Nat) (v1 : Int32) (v2 : Int32) (h : Hp) {r : Int32} (e : F_X9_isAt v0 v1 v2 h = some r) : Ct l yX9_isAt M_X9_isAt (some .boolean) 0 [.ref v0, .int v1, .int v2] h 0 0 (some (.int r)) h :=
  Ct_of rfl rfl (fun q => by cases q) (Nat.le_of_ble_eq_true rfl) (fun x _ hF => V_pick [0, 1, 2] rfl (r_X9_isAt_b0 v0 v1 v2 h e hF))
theorem dX10_copyFrom_0 : decode cX10_copyFrom 0 = .ok (.aload_n 0, 1) := by decide +kernel
theorem dX10_copyFrom_1 : decode cX10_copyFrom 1 = .ok (.aload_n 1, 1) := by decide +kernel
theorem dX10_copyFrom_2 : decode cX10_copyFrom 2 = .ok (.getfield 22, 3) := by decide +kernel
theorem dX10_copyFrom_5 : decode cX10_copyFrom 5 = .ok (.putfield 22, 3) := by decide +kernel
theorem dX10_copyFrom_8 : decode cX10_copyFrom 8 = .ok (.aload_n 0, 1) := by decide +kernel
theorem dX10_copyFrom_9 : decode cX10_copyFrom 9 = .ok (.aload_n 1, 1) := by decide +kernel
theorem dX10_copyFrom_10 : decode cX10_copyFrom 10 = .ok (.getfield 18, 3) := by decide +kernel
theorem dX10_copyFrom_13 : decode cX10_copyFrom 13 = .ok (.putfield 18, 3) := by decide +kernel
theorem dX10_copyFrom_16 : decode cX10_copyFrom 16 = .ok (.aload_n 1, 1) := by decide +kernel
theorem dX10_copyFrom_17 : decode cX10_copyFrom 17 = .ok (.getfield 9, 3) := by decide +kernel
theorem dX10_copyFrom_20 : decode cX10_copyFrom 20 = .ok (.iconst 0, 1) := by decide +kernel
theorem dX10_copyFrom_21 : decode cX10_copyFrom 21 = .ok (.aload_n 0, 1) := by decide +kernel
theorem dX10_copyFrom_22 : decode cX10_copyFrom 22 = .ok (.getfield 9, 3) := by decide +kernel
theorem dX10_copyFrom_25 : decode cX10_copyFrom 25 = .ok (.iconst 0, 1) := by decide +kernel
theorem dX10_copyFrom_26 : decode cX10_copyFrom 26 = .ok (.sipush 400, 3) := by decide +kernel
theorem dX10_copyFrom_29 : decode cX10_copyFrom 29 = .ok (.invokestatic 25, 3) := by decide +kernel
theorem dX10_copyFrom_32 : decode cX10_copyFrom 32 = .ok (.return_, 1) := by decide +kernel
set_option maxRecDepth 100000 in
def F_X10_copyFrom_b0 (v0 : Nat) (v1 : Nat) (h : Hp) : Option (Unit × Hp) :=
  gd (decide (kd h v1 = 9)) <| gd (decide (kd h v0 = 9)) <| ob (zR (setI (setI h v0 0 (zI h v1 0)) v0 3 (zI (setI h v0 0 (zI h v1 0)) v1 3)) v1 1) fun q3 => ob (zR (setI (setI h v0 0 (zI h v1 0)) v0 3 (zI (setI h v0 0 (zI h v1 0)) v1 3)) v0 1) fun q5 => gd (decide (kd (setI (setI h v0 0 (zI h v1 0)) v0 3 (zI (setI h v0 0 (zI h v1 0)) v1 3)) q3 = 13)) <| gd (decide (kd (setI (setI h v0 0 (zI h v1 0)) v0 3 (zI (setI h v0 0 (zI h v1 0)) v1 3)) q5 = 13)) <| gd (cpk (0 : Int32) (0 : Int32) (400 : Int32) (zl (setI (setI h v0 0 (zI h v1 0)) v0 3 (zI (setI h v0 0 (zI h v1 0)) v1 3)) q3) (zl (setI (setI h v0 0 (zI h v1 0)) v0 3 (zI (setI h v0 0 (zI h v1 0)) v1 3)) q5)) <| some ((), cpA (setI (setI h v0 0 (zI h v1 0)) v0 3 (zI (setI h v0 0 (zI h v1 0)) v1 3)) q3 (0 : Int32) q5 (0 : Int32) (400 : Int32))
set_option maxHeartbeats 4000000 in
set_option maxRecDepth 100000 in
theorem r_X10_copyFrom_b0 (v0 : Nat) (v1 : Nat) (h : Hp) {x : Cx} {r : Unit} {hz : Hp} (e : F_X10_copyFrom_b0 v0 v1 h = some (r, hz)) (hF : Fin9 M_X10_copyFrom x none none hz) : V M_X10_copyFrom x 1 0 [(0, .ref v0), (1, .ref v1)] [] h 0 0 := by
  unfold F_X10_copyFrom_b0 at e
  refine V_aload_n (pc := 0) (i := 0) dX10_copyFrom_0 rfl rfl ?_
  refine V_aload_n (pc := 1) (i := 1) dX10_copyFrom_1 rfl rfl ?_
  obtain ⟨g1, e⟩ := gd_some e
  refine V_getI (pc := 2) (ci := 9) (k := 0) dX10_copyFrom_2 fl_X10_22 rfl (of_decide_eq_true g1) ?_
  obtain ⟨g2, e⟩ := gd_some e
  refine V_putI (pc := 5) (ci := 9) (k := 0) dX10_copyFrom_5 fp_X10_22 rfl (of_decide_eq_true g2) ?_
  refine V_aload_n (pc := 8) (i := 0) dX10_copyFrom_8 rfl rfl ?_
  refine V_aload_n (pc := 9) (i := 1) dX10_copyFrom_9 rfl rfl ?_
  refine V_getI (pc := 10) (ci := 9) (k := 3) dX10_copyFrom_10 fl_X10_18 rfl (of_decide_eq_true g1) ?_
  refine V_putI (pc := 13) (ci := 9) (k := 3) dX10_copyFrom_13 fp_X10_18 rfl (of_decide_eq_true g2) ?_
  refine V_aload_n (pc := 16) (i := 1) dX10_copyFrom_16 rfl rfl ?_
  obtain ⟨q3, g4, e⟩ := ob_some e
  refine V_getR (pc := 17) (ci := 9) (k := 1) (b := q3) dX10_copyFrom_17 fl_X10_9 rfl (of_decide_eq_true g1) g4 ?_
  refine V_iconst (pc := 20) (v := (0 : Int32)) dX10_copyFrom_20 (by decide) ?_
  refine V_aload_n (pc := 21) (i := 0) dX10_copyFrom_21 rfl rfl ?_
  obtain ⟨q5, g6, e⟩ := ob_some e
  refine V_getR (pc := 22) (ci := 9) (k := 1) (b := q5) dX10_copyFrom_22 fl_X10_9 rfl (of_decide_eq_true g2) g6 ?_
  refine V_iconst (pc := 25) (v := (0 : Int32)) dX10_copyFrom_25 (by decide) ?_
  refine V_sipush (pc := 26) (v := (400 : Int32)) dX10_copyFrom_26 (by decide) ?_
  obtain ⟨g7, e⟩ := gd_some e
  obtain ⟨g8, e⟩ := gd_some e
  obtain ⟨g9, e⟩ := gd_some e
  refine V_copy (pc := 29) dX10_copyFrom_29 wm_X10_25 (of_decide_eq_true g7) (of_decide_eq_true g8) g9 (by decide) (Nat.le_of_ble_eq_true rfl) ?_
  cases e
  exact V_vret (pc := 32) dX10_copyFrom_32 hF
def F_X10_copyFrom (v0 : Nat) (v1 : Nat) (h : Hp) : Option (Unit × Hp) := F_X10_copyFrom_b0 v0 v1 h
theorem c_X10_copyFrom {l : Launch} (v0 : Nat) (v1 : Nat) (h : Hp) {r : Unit} {hz : Hp} (e : F_X10_copyFrom v0 v1 h = some (r, hz)) : Ct l yX10_copyFrom M_X10_copyFrom none 1 [.ref v0, .ref v1] h 0 0 none hz :=
  Ct_of rfl rfl (fun q => by cases q) (Nat.le_of_ble_eq_true rfl) (fun x _ hF => V_pick [0, 1] rfl (r_X10_copyFrom_b0 v0 v1 h e hF))
theorem dX10_put_0 : decode cX10_put 0 = .ok (.aload_n 0, 1) := by decide +kernel
theorem dX10_put_1 : decode cX10_put 1 = .ok (.getfield 18, 3) := by decide +kernel
theorem dX10_put_4 : decode cX10_put 4 = .ok (.aload_n 0, 1) := by decide +kernel
theorem dX10_put_5 : decode cX10_put 5 = .ok (.getfield 9, 3) := by decide +kernel
theorem dX10_put_8 : decode cX10_put 8 = .ok (.arraylength, 1) := by decide +kernel
theorem dX10_put_9 : decode cX10_put 9 = .ok (.if_icmp .ge 23, 3) := by decide +kernel
theorem dX10_put_12 : decode cX10_put 12 = .ok (.aload_n 0, 1) := by decide +kernel
theorem dX10_put_13 : decode cX10_put 13 = .ok (.getfield 9, 3) := by decide +kernel
theorem dX10_put_16 : decode cX10_put 16 = .ok (.aload_n 0, 1) := by decide +kernel
theorem dX10_put_17 : decode cX10_put 17 = .ok (.getfield 18, 3) := by decide +kernel
theorem dX10_put_20 : decode cX10_put 20 = .ok (.iload_n 1, 1) := by decide +kernel
theorem dX10_put_21 : decode cX10_put 21 = .ok (.iastore, 1) := by decide +kernel
theorem dX10_put_22 : decode cX10_put 22 = .ok (.aload_n 0, 1) := by decide +kernel
theorem dX10_put_23 : decode cX10_put 23 = .ok (.dup, 1) := by decide +kernel
theorem dX10_put_24 : decode cX10_put 24 = .ok (.getfield 18, 3) := by decide +kernel
theorem dX10_put_27 : decode cX10_put 27 = .ok (.iconst 1, 1) := by decide +kernel
theorem dX10_put_28 : decode cX10_put 28 = .ok (.iadd, 1) := by decide +kernel
theorem dX10_put_29 : decode cX10_put 29 = .ok (.putfield 18, 3) := by decide +kernel
theorem dX10_put_32 : decode cX10_put 32 = .ok (.iconst 1, 1) := by decide +kernel
theorem dX10_put_33 : decode cX10_put 33 = .ok (.ireturn, 1) := by decide +kernel
set_option maxRecDepth 100000 in
def F_X10_put_b32  (h : Hp) : Option (Int32 × Hp) :=
  some ((1 : Int32), h)
set_option maxHeartbeats 4000000 in
set_option maxRecDepth 100000 in
theorem r_X10_put_b32  (h : Hp) {x : Cx} {r : Int32} {hz : Hp} (e : F_X10_put_b32  h = some (r, hz)) (hF : Fin9 M_X10_put x (some .boolean) (some (.int r)) hz) : V M_X10_put x 0 32 [] [] h 0 0 := by
  unfold F_X10_put_b32 at e
  refine V_iconst (pc := 32) (v := (1 : Int32)) dX10_put_32 (by decide) ?_
  cases e
  exact V_zret (pc := 33) dX10_put_33 rfl hF
set_option maxRecDepth 100000 in
def F_X10_put_b0 (v0 : Nat) (v1 : Int32) (h : Hp) : Option (Int32 × Hp) :=
  gd (decide (kd h v0 = 9)) <| ob (zR h v0 1) fun q2 => gd (decide (kd h q2 = 13)) <| (if (Int32.ofNat (zl h q2)) ≤ (zI h v0 3) then F_X10_put_b32 h else ob (zR h v0 1) fun q5 => gd (decide (kd h q5 = 13)) <| gd (ix (zI h v0 3) (zl h q5)) <| F_X10_put_b32 (setI (setI h q5 (zI h v0 3).toNatClampNeg v1) v0 3 ((zI (setI h q5 (zI h v0 3).toNatClampNeg v1) v0 3) + (1 : Int32))))
set_option maxHeartbeats 4000000 in
set_option maxRecDepth 100000 in
theorem r_X10_put_b0 (v0 : Nat) (v1 : Int32) (h : Hp) {x : Cx} {r : Int32} {hz : Hp} (e : F_X10_put_b0 v0 v1 h = some (r, hz)) (hF : Fin9 M_X10_put x (some .boolean) (some (.int r)) hz) : V M_X10_put x 0 0 [(0, .ref v0), (1, .int v1)] [] h 0 0 := by
  unfold F_X10_put_b0 at e
  refine V_aload_n (pc := 0) (i := 0) dX10_put_0 rfl rfl ?_
  obtain ⟨g1, e⟩ := gd_some e
  refine V_getI (pc := 1) (ci := 9) (k := 3) dX10_put_1 fl_X10_18 rfl (of_decide_eq_true g1) ?_
  refine V_aload_n (pc := 4) (i := 0) dX10_put_4 rfl rfl ?_
  obtain ⟨q2, g3, e⟩ := ob_some e
  refine V_getR (pc := 5) (ci := 9) (k := 1) (b := q2) dX10_put_5 fl_X10_9 rfl (of_decide_eq_true g1) g3 ?_
  obtain ⟨g4, e⟩ := gd_some e
  refine V_alen (pc := 8) (k := 13) dX10_put_8 (of_decide_eq_true g4) (by decide) ?_
  refine V_icmp_ge (pc := 9) (tgt := 32) dX10_put_9 (by decide) (fun c9 => ?_) (fun c9 => ?_)
  · rw [if_pos c9] at e
    exact V_pick [] rfl (r_X10_put_b32 h e hF)
  · rw [if_neg c9] at e
    refine V_pick [0, 1] rfl ?_
    refine V_aload_n (pc := 12) (i := 0) dX10_put_12 rfl rfl ?_
    obtain ⟨q5, g6, e⟩ := ob_some e
    refine V_getR (pc := 13) (ci := 9) (k := 1) (b := q5) dX10_put_13 fl_X10_9 rfl (of_decide_eq_true g1) g6 ?_
    refine V_aload_n (pc := 16) (i := 0) dX10_put_16 rfl rfl ?_
    refine V_getI (pc := 17) (ci := 9) (k := 3) dX10_put_17 fl_X10_18 rfl (of_decide_eq_true g1) ?_
    refine V_iload_n (pc := 20) (i := 1) dX10_put_20 rfl rfl ?_
    obtain ⟨g7, e⟩ := gd_some e
    obtain ⟨g8, e⟩ := gd_some e
    refine V_iast (pc := 21) dX10_put_21 (of_decide_eq_true g7) (ix_in g8) ?_
    refine V_aload_n (pc := 22) (i := 0) dX10_put_22 rfl rfl ?_
    refine V_dup (pc := 23) dX10_put_23 rfl ?_
    refine V_getI (pc := 24) (ci := 9) (k := 3) dX10_put_24 fl_X10_18 rfl (of_decide_eq_true g1) ?_
    refine V_iconst (pc := 27) (v := (1 : Int32)) dX10_put_27 (by decide) ?_
    refine V_iadd (pc := 28) dX10_put_28 ?_
    refine V_putI (pc := 29) (ci := 9) (k := 3) dX10_put_29 fp_X10_18 rfl (of_decide_eq_true g1) ?_
    exact V_pick [] rfl (r_X10_put_b32 (setI (setI h q5 (zI h v0 3).toNatClampNeg v1) v0 3 ((zI (setI h q5 (zI h v0 3).toNatClampNeg v1) v0 3) + (1 : Int32))) e hF)
def F_X10_put (v0 : Nat) (v1 : Int32) (h : Hp) : Option (Int32 × Hp) := F_X10_put_b0 v0 v1 h
theorem c_X10_put {l : Launch} (v0 : Nat) (v1 : Int32) (h : Hp) {r : Int32} {hz : Hp} (e : F_X10_put v0 v1 h = some (r, hz)) : Ct l yX10_put M_X10_put (some .boolean) 0 [.ref v0, .int v1] h 0 0 (some (.int r)) hz :=
  Ct_of rfl rfl (fun q => by cases q) (Nat.le_of_ble_eq_true rfl) (fun x _ hF => V_pick [0, 1] rfl (r_X10_put_b0 v0 v1 h e hF))
theorem dX10_partNamed_0 : decode cX10_partNamed 0 = .ok (.aload_n 0, 1) := by decide +kernel
theorem dX10_partNamed_1 : decode cX10_partNamed 1 = .ok (.ldc 110, 2) := by decide +kernel
theorem dX10_partNamed_3 : decode cX10_partNamed 3 = .ok (.invokevirtual 52, 3) := by decide +kernel
theorem dX10_partNamed_6 : decode cX10_partNamed 6 = .ok (.ifCond .eq 6, 3) := by decide +kernel
theorem dX10_partNamed_9 : decode cX10_partNamed 9 = .ok (.bipush (-10), 2) := by decide +kernel
theorem dX10_partNamed_11 : decode cX10_partNamed 11 = .ok (.ireturn, 1) := by decide +kernel
theorem dX10_partNamed_12 : decode cX10_partNamed 12 = .ok (.aload_n 0, 1) := by decide +kernel
theorem dX10_partNamed_13 : decode cX10_partNamed 13 = .ok (.ldc 112, 2) := by decide +kernel
theorem dX10_partNamed_15 : decode cX10_partNamed 15 = .ok (.invokevirtual 52, 3) := by decide +kernel
theorem dX10_partNamed_18 : decode cX10_partNamed 18 = .ok (.ifCond .eq 6, 3) := by decide +kernel
theorem dX10_partNamed_21 : decode cX10_partNamed 21 = .ok (.bipush (-11), 2) := by decide +kernel
theorem dX10_partNamed_23 : decode cX10_partNamed 23 = .ok (.ireturn, 1) := by decide +kernel
theorem dX10_partNamed_24 : decode cX10_partNamed 24 = .ok (.aload_n 0, 1) := by decide +kernel
theorem dX10_partNamed_25 : decode cX10_partNamed 25 = .ok (.ldc 114, 2) := by decide +kernel
theorem dX10_partNamed_27 : decode cX10_partNamed 27 = .ok (.invokevirtual 52, 3) := by decide +kernel
theorem dX10_partNamed_30 : decode cX10_partNamed 30 = .ok (.ifCond .eq 6, 3) := by decide +kernel
theorem dX10_partNamed_33 : decode cX10_partNamed 33 = .ok (.bipush (-12), 2) := by decide +kernel
theorem dX10_partNamed_35 : decode cX10_partNamed 35 = .ok (.ireturn, 1) := by decide +kernel
theorem dX10_partNamed_36 : decode cX10_partNamed 36 = .ok (.aload_n 0, 1) := by decide +kernel
theorem dX10_partNamed_37 : decode cX10_partNamed 37 = .ok (.ldc 116, 2) := by decide +kernel
theorem dX10_partNamed_39 : decode cX10_partNamed 39 = .ok (.invokevirtual 52, 3) := by decide +kernel
theorem dX10_partNamed_42 : decode cX10_partNamed 42 = .ok (.ifCond .eq 6, 3) := by decide +kernel
theorem dX10_partNamed_45 : decode cX10_partNamed 45 = .ok (.bipush (-13), 2) := by decide +kernel
theorem dX10_partNamed_47 : decode cX10_partNamed 47 = .ok (.ireturn, 1) := by decide +kernel
theorem dX10_partNamed_48 : decode cX10_partNamed 48 = .ok (.aload_n 0, 1) := by decide +kernel
theorem dX10_partNamed_49 : decode cX10_partNamed 49 = .ok (.ldc 118, 2) := by decide +kernel
theorem dX10_partNamed_51 : decode cX10_partNamed 51 = .ok (.invokevirtual 52, 3) := by decide +kernel
theorem dX10_partNamed_54 : decode cX10_partNamed 54 = .ok (.ifCond .eq 6, 3) := by decide +kernel
theorem dX10_partNamed_57 : decode cX10_partNamed 57 = .ok (.bipush (-14), 2) := by decide +kernel
theorem dX10_partNamed_59 : decode cX10_partNamed 59 = .ok (.ireturn, 1) := by decide +kernel
theorem dX10_partNamed_60 : decode cX10_partNamed 60 = .ok (.aload_n 0, 1) := by decide +kernel
theorem dX10_partNamed_61 : decode cX10_partNamed 61 = .ok (.ldc 120, 2) := by decide +kernel
theorem dX10_partNamed_63 : decode cX10_partNamed 63 = .ok (.invokevirtual 52, 3) := by decide +kernel
theorem dX10_partNamed_66 : decode cX10_partNamed 66 = .ok (.ifCond .eq 8, 3) := by decide +kernel
theorem dX10_partNamed_69 : decode cX10_partNamed 69 = .ok (.bipush (-15), 2) := by decide +kernel
theorem dX10_partNamed_71 : decode cX10_partNamed 71 = .ok (.goto 4, 3) := by decide +kernel
theorem dX10_partNamed_74 : decode cX10_partNamed 74 = .ok (.iconst (-1), 1) := by decide +kernel
theorem dX10_partNamed_75 : decode cX10_partNamed 75 = .ok (.ireturn, 1) := by decide +kernel
set_option maxRecDepth 100000 in
def F_X10_partNamed_b75 (t0 : Int32) (h : Hp) : Option Int32 :=
  some t0
set_option maxHeartbeats 4000000 in
set_option maxRecDepth 100000 in
theorem r_X10_partNamed_b75 (t0 : Int32) (h : Hp) {x : Cx} {r : Int32} (e : F_X10_partNamed_b75 t0 h = some r) (hF : Fin9 M_X10_partNamed x (some .int) (some (.int r)) h) : V M_X10_partNamed x 5 75 [] [.int t0] h 0 0 := by
  unfold F_X10_partNamed_b75 at e
  cases e
  exact V_iret (pc := 75) dX10_partNamed_75 hF
set_option maxRecDepth 100000 in
def F_X10_partNamed_b0 (v0 : Nat) (h : Hp) : Option Int32 :=
  ob (F_X6_isWord v0 (18 : UInt32) h) fun r2 => gd (decide (kd h v0 = 6)) <| (if r2 = 0 then ob (F_X6_isWord v0 (19 : UInt32) h) fun r5 => (if r5 = 0 then ob (F_X6_isWord v0 (20 : UInt32) h) fun r7 => (if r7 = 0 then ob (F_X6_isWord v0 (21 : UInt32) h) fun r9 => (if r9 = 0 then ob (F_X6_isWord v0 (22 : UInt32) h) fun r11 => (if r11 = 0 then ob (F_X6_isWord v0 (23 : UInt32) h) fun r13 => (if r13 = 0 then F_X10_partNamed_b75 (-1 : Int32) h else F_X10_partNamed_b75 (-15 : Int32) h) else some (-14 : Int32)) else some (-13 : Int32)) else some (-12 : Int32)) else some (-11 : Int32)) else some (-10 : Int32))
set_option maxHeartbeats 4000000 in
set_option maxRecDepth 100000 in
theorem r_X10_partNamed_b0 (v0 : Nat) (h : Hp) {x : Cx} {r : Int32} (e : F_X10_partNamed_b0 v0 h = some r) (hF : Fin9 M_X10_partNamed x (some .int) (some (.int r)) h) : V M_X10_partNamed x 5 0 [(0, .ref v0)] [] h 0 0 := by
  unfold F_X10_partNamed_b0 at e
  refine V_aload_n (pc := 0) (i := 0) dX10_partNamed_0 rfl rfl ?_
  refine V_ldcS (pc := 1) (j := 18) (u := (18 : UInt32)) dX10_partNamed_1 rfl (by decide) ?_
  obtain ⟨r2, g1, e⟩ := ob_some e
  obtain ⟨g3, e⟩ := gd_some e
  refine V_callV (pc := 3) (bc := 0) (bs := 0) (mc := 0) (ms := 0) (st := []) (As := [.float (18 : UInt32)]) (a := v0) (h' := h) (r := some (.int r2)) dX10_partNamed_3 ml_X10_52 (ci := 6) rfl (of_decide_eq_true g3) rfl rfl (Nat.le_of_ble_eq_true rfl) (d' := 4) (by decide) (c_X6_isWord (l := x.2.1) v0 (18 : UInt32) h g1) ?_
  refine V_if_eq (pc := 6) (tgt := 12) dX10_partNamed_6 (by decide) (fun c19 => ?_) (fun c19 => ?_)
  · rw [if_pos c19] at e
    refine V_pick [0] rfl ?_
    refine V_aload_n (pc := 12) (i := 0) dX10_partNamed_12 rfl rfl ?_
    refine V_ldcS (pc := 13) (j := 19) (u := (19 : UInt32)) dX10_partNamed_13 rfl (by decide) ?_
    obtain ⟨r5, g4, e⟩ := ob_some e
    refine V_callV (pc := 15) (bc := 0) (bs := 0) (mc := 0) (ms := 0) (st := []) (As := [.float (19 : UInt32)]) (a := v0) (h' := h) (r := some (.int r5)) dX10_partNamed_15 ml_X10_52 (ci := 6) rfl (of_decide_eq_true g3) rfl rfl (Nat.le_of_ble_eq_true rfl) (d' := 4) (by decide) (c_X6_isWord (l := x.2.1) v0 (19 : UInt32) h g4) ?_
    refine V_if_eq (pc := 18) (tgt := 24) dX10_partNamed_18 (by decide) (fun c18 => ?_) (fun c18 => ?_)
    · rw [if_pos c18] at e
      refine V_pick [0] rfl ?_
      refine V_aload_n (pc := 24) (i := 0) dX10_partNamed_24 rfl rfl ?_
      refine V_ldcS (pc := 25) (j := 20) (u := (20 : UInt32)) dX10_partNamed_25 rfl (by decide) ?_
      obtain ⟨r7, g6, e⟩ := ob_some e
      refine V_callV (pc := 27) (bc := 0) (bs := 0) (mc := 0) (ms := 0) (st := []) (As := [.float (20 : UInt32)]) (a := v0) (h' := h) (r := some (.int r7)) dX10_partNamed_27 ml_X10_52 (ci := 6) rfl (of_decide_eq_true g3) rfl rfl (Nat.le_of_ble_eq_true rfl) (d' := 4) (by decide) (c_X6_isWord (l := x.2.1) v0 (20 : UInt32) h g6) ?_
      refine V_if_eq (pc := 30) (tgt := 36) dX10_partNamed_30 (by decide) (fun c17 => ?_) (fun c17 => ?_)
      · rw [if_pos c17] at e
        refine V_pick [0] rfl ?_
        refine V_aload_n (pc := 36) (i := 0) dX10_partNamed_36 rfl rfl ?_
        refine V_ldcS (pc := 37) (j := 21) (u := (21 : UInt32)) dX10_partNamed_37 rfl (by decide) ?_
        obtain ⟨r9, g8, e⟩ := ob_some e
        refine V_callV (pc := 39) (bc := 0) (bs := 0) (mc := 0) (ms := 0) (st := []) (As := [.float (21 : UInt32)]) (a := v0) (h' := h) (r := some (.int r9)) dX10_partNamed_39 ml_X10_52 (ci := 6) rfl (of_decide_eq_true g3) rfl rfl (Nat.le_of_ble_eq_true rfl) (d' := 4) (by decide) (c_X6_isWord (l := x.2.1) v0 (21 : UInt32) h g8) ?_
        refine V_if_eq (pc := 42) (tgt := 48) dX10_partNamed_42 (by decide) (fun c16 => ?_) (fun c16 => ?_)
        · rw [if_pos c16] at e
          refine V_pick [0] rfl ?_
          refine V_aload_n (pc := 48) (i := 0) dX10_partNamed_48 rfl rfl ?_
          refine V_ldcS (pc := 49) (j := 22) (u := (22 : UInt32)) dX10_partNamed_49 rfl (by decide) ?_
          obtain ⟨r11, g10, e⟩ := ob_some e
          refine V_callV (pc := 51) (bc := 0) (bs := 0) (mc := 0) (ms := 0) (st := []) (As := [.float (22 : UInt32)]) (a := v0) (h' := h) (r := some (.int r11)) dX10_partNamed_51 ml_X10_52 (ci := 6) rfl (of_decide_eq_true g3) rfl rfl (Nat.le_of_ble_eq_true rfl) (d' := 4) (by decide) (c_X6_isWord (l := x.2.1) v0 (22 : UInt32) h g10) ?_
          refine V_if_eq (pc := 54) (tgt := 60) dX10_partNamed_54 (by decide) (fun c15 => ?_) (fun c15 => ?_)
          · rw [if_pos c15] at e
            refine V_pick [0] rfl ?_
            refine V_aload_n (pc := 60) (i := 0) dX10_partNamed_60 rfl rfl ?_
            refine V_ldcS (pc := 61) (j := 23) (u := (23 : UInt32)) dX10_partNamed_61 rfl (by decide) ?_
            obtain ⟨r13, g12, e⟩ := ob_some e
            refine V_callV (pc := 63) (bc := 0) (bs := 0) (mc := 0) (ms := 0) (st := []) (As := [.float (23 : UInt32)]) (a := v0) (h' := h) (r := some (.int r13)) dX10_partNamed_63 ml_X10_52 (ci := 6) rfl (of_decide_eq_true g3) rfl rfl (Nat.le_of_ble_eq_true rfl) (d' := 4) (by decide) (c_X6_isWord (l := x.2.1) v0 (23 : UInt32) h g12) ?_
            refine V_if_eq (pc := 66) (tgt := 74) dX10_partNamed_66 (by decide) (fun c14 => ?_) (fun c14 => ?_)
            · rw [if_pos c14] at e
              refine V_pick [] rfl ?_
              refine V_iconst (pc := 74) (v := (-1 : Int32)) dX10_partNamed_74 (by decide) ?_
              exact V_pick [] rfl (r_X10_partNamed_b75 (-1 : Int32) h e hF)
            · rw [if_neg c14] at e
              refine V_pick [] rfl ?_
              refine V_bipush (pc := 69) (v := (-15 : Int32)) dX10_partNamed_69 (by decide) ?_
              refine V_goto (pc := 71) (tgt := 75) dX10_partNamed_71 (by decide) ?_
              exact V_pick [] rfl (r_X10_partNamed_b75 (-15 : Int32) h e hF)
          · rw [if_neg c15] at e
            refine V_pick [] rfl ?_
            refine V_bipush (pc := 57) (v := (-14 : Int32)) dX10_partNamed_57 (by decide) ?_
            cases e
            exact V_iret (pc := 59) dX10_partNamed_59 hF
        · rw [if_neg c16] at e
          refine V_pick [] rfl ?_
          refine V_bipush (pc := 45) (v := (-13 : Int32)) dX10_partNamed_45 (by decide) ?_
          cases e
          exact V_iret (pc := 47) dX10_partNamed_47 hF
      · rw [if_neg c17] at e
        refine V_pick [] rfl ?_
        refine V_bipush (pc := 33) (v := (-12 : Int32)) dX10_partNamed_33 (by decide) ?_
        cases e
        exact V_iret (pc := 35) dX10_partNamed_35 hF
    · rw [if_neg c18] at e
      refine V_pick [] rfl ?_
      refine V_bipush (pc := 21) (v := (-11 : Int32)) dX10_partNamed_21 (by decide) ?_
      cases e
      exact V_iret (pc := 23) dX10_partNamed_23 hF
  · rw [if_neg c19] at e
    refine V_pick [] rfl ?_
    refine V_bipush (pc := 9) (v := (-10 : Int32)) dX10_partNamed_9 (by decide) ?_
    cases e
    exact V_iret (pc := 11) dX10_partNamed_11 hF
def F_X10_partNamed (v0 : Nat) (h : Hp) : Option Int32 := F_X10_partNamed_b0 v0 h
theorem c_X10_partNamed {l : Launch} (v0 : Nat) (h : Hp) {r : Int32} (e : F_X10_partNamed v0 h = some r) : Ct l yX10_partNamed M_X10_partNamed (some .int) 5 [.ref v0] h 0 0 (some (.int r)) h :=
  Ct_of rfl rfl (fun q => by cases q) (Nat.le_of_ble_eq_true rfl) (fun x _ hF => V_pick [0] rfl (r_X10_partNamed_b0 v0 h e hF))
