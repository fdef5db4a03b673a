theorem dX4_sendGuests_0 : decode cX4_sendGuests 0 = .ok (.aload_n 0, 1) := by decide +kernel
theorem dX4_sendGuests_1 : decode cX4_sendGuests 1 = .ok (.getfield 9, 3) := by decide +kernel
theorem dX4_sendGuests_4 : decode cX4_sendGuests 4 = .ok (.iload_n 1, 1) := by decide +kernel
theorem dX4_sendGuests_5 : decode cX4_sendGuests 5 = .ok (.iaload, 1) := by decide +kernel
theorem dX4_sendGuests_6 : decode cX4_sendGuests 6 = .ok (.iconst 1, 1) := by decide +kernel
theorem dX4_sendGuests_7 : decode cX4_sendGuests 7 = .ok (.iadd, 1) := by decide +kernel
theorem dX4_sendGuests_8 : decode cX4_sendGuests 8 = .ok (.istore_n 3, 1) := by decide +kernel
theorem dX4_sendGuests_9 : decode cX4_sendGuests 9 = .ok (.iconst 0, 1) := by decide +kernel
theorem dX4_sendGuests_10 : decode cX4_sendGuests 10 = .ok (.istore 4, 2) := by decide +kernel
theorem dX4_sendGuests_12 : decode cX4_sendGuests 12 = .ok (.iload 4, 2) := by decide +kernel
theorem dX4_sendGuests_14 : decode cX4_sendGuests 14 = .ok (.aload_n 2, 1) := by decide +kernel
theorem dX4_sendGuests_15 : decode cX4_sendGuests 15 = .ok (.getfield 31, 3) := by decide +kernel
theorem dX4_sendGuests_18 : decode cX4_sendGuests 18 = .ok (.if_icmp .ge 72, 3) := by decide +kernel
theorem dX4_sendGuests_21 : decode cX4_sendGuests 21 = .ok (.iload_n 1, 1) := by decide +kernel
theorem dX4_sendGuests_22 : decode cX4_sendGuests 22 = .ok (.iload 4, 2) := by decide +kernel
theorem dX4_sendGuests_24 : decode cX4_sendGuests 24 = .ok (.iconst 0, 1) := by decide +kernel
theorem dX4_sendGuests_25 : decode cX4_sendGuests 25 = .ok (.invokestatic 64, 3) := by decide +kernel
theorem dX4_sendGuests_28 : decode cX4_sendGuests 28 = .ok (.istore 5, 2) := by decide +kernel
theorem dX4_sendGuests_30 : decode cX4_sendGuests 30 = .ok (.iconst 1, 1) := by decide +kernel
theorem dX4_sendGuests_31 : decode cX4_sendGuests 31 = .ok (.iconst 3, 1) := by decide +kernel
theorem dX4_sendGuests_32 : decode cX4_sendGuests 32 = .ok (.iload 4, 2) := by decide +kernel
theorem dX4_sendGuests_34 : decode cX4_sendGuests 34 = .ok (.imul, 1) := by decide +kernel
theorem dX4_sendGuests_35 : decode cX4_sendGuests 35 = .ok (.ishl, 1) := by decide +kernel
theorem dX4_sendGuests_36 : decode cX4_sendGuests 36 = .ok (.istore 6, 2) := by decide +kernel
theorem dX4_sendGuests_38 : decode cX4_sendGuests 38 = .ok (.iconst 0, 1) := by decide +kernel
theorem dX4_sendGuests_39 : decode cX4_sendGuests 39 = .ok (.istore 7, 2) := by decide +kernel
theorem dX4_sendGuests_41 : decode cX4_sendGuests 41 = .ok (.iload 7, 2) := by decide +kernel
theorem dX4_sendGuests_43 : decode cX4_sendGuests 43 = .ok (.aload_n 2, 1) := by decide +kernel
theorem dX4_sendGuests_44 : decode cX4_sendGuests 44 = .ok (.getfield 68, 3) := by decide +kernel
theorem dX4_sendGuests_47 : decode cX4_sendGuests 47 = .ok (.if_icmp .ge 37, 3) := by decide +kernel
theorem dX4_sendGuests_50 : decode cX4_sendGuests 50 = .ok (.iload 5, 2) := by decide +kernel
theorem dX4_sendGuests_52 : decode cX4_sendGuests 52 = .ok (.iload 7, 2) := by decide +kernel
theorem dX4_sendGuests_54 : decode cX4_sendGuests 54 = .ok (.iload 6, 2) := by decide +kernel
theorem dX4_sendGuests_56 : decode cX4_sendGuests 56 = .ok (.imul, 1) := by decide +kernel
theorem dX4_sendGuests_57 : decode cX4_sendGuests 57 = .ok (.iadd, 1) := by decide +kernel
theorem dX4_sendGuests_58 : decode cX4_sendGuests 58 = .ok (.istore 8, 2) := by decide +kernel
theorem dX4_sendGuests_60 : decode cX4_sendGuests 60 = .ok (.aload_n 0, 1) := by decide +kernel
theorem dX4_sendGuests_61 : decode cX4_sendGuests 61 = .ok (.getfield 9, 3) := by decide +kernel
theorem dX4_sendGuests_64 : decode cX4_sendGuests 64 = .ok (.iload 8, 2) := by decide +kernel
theorem dX4_sendGuests_66 : decode cX4_sendGuests 66 = .ok (.iaload, 1) := by decide +kernel
theorem dX4_sendGuests_67 : decode cX4_sendGuests 67 = .ok (.iconst (-1), 1) := by decide +kernel
theorem dX4_sendGuests_68 : decode cX4_sendGuests 68 = .ok (.if_icmp .ne 10, 3) := by decide +kernel
theorem dX4_sendGuests_71 : decode cX4_sendGuests 71 = .ok (.aload_n 0, 1) := by decide +kernel
theorem dX4_sendGuests_72 : decode cX4_sendGuests 72 = .ok (.iload 8, 2) := by decide +kernel
theorem dX4_sendGuests_74 : decode cX4_sendGuests 74 = .ok (.iload_n 3, 1) := by decide +kernel
theorem dX4_sendGuests_75 : decode cX4_sendGuests 75 = .ok (.invokevirtual 51, 3) := by decide +kernel
theorem dX4_sendGuests_78 : decode cX4_sendGuests 78 = .ok (.iinc 7 1, 3) := by decide +kernel
theorem dX4_sendGuests_81 : decode cX4_sendGuests 81 = .ok (.goto (-40), 3) := by decide +kernel
theorem dX4_sendGuests_84 : decode cX4_sendGuests 84 = .ok (.iinc 4 1, 3) := by decide +kernel
theorem dX4_sendGuests_87 : decode cX4_sendGuests 87 = .ok (.goto (-75), 3) := by decide +kernel
theorem dX4_sendGuests_90 : decode cX4_sendGuests 90 = .ok (.return_, 1) := by decide +kernel
set_option maxRecDepth 100000 in
def F_X4_sendGuests_b78 (v0 : Nat) (v1 : Int32) (v2 : Nat) (v3 : Int32) (v4 : Int32) (v5 : Int32) (v6 : Int32) (v7 : Int32) (h : Hp) : Option ((Int32 × Hp) ⊕ Hp) :=
  some (.inl (v7 + (1 : Int32), h))
set_option maxHeartbeats 4000000 in
set_option maxRecDepth 100000 in
theorem r_X4_sendGuests_b78 (v0 : Nat) (v1 : Int32) (v2 : Nat) (v3 : Int32) (v4 : Int32) (v5 : Int32) (v6 : Int32) (v7 : Int32) (h : Hp) {x : Cx} {o : ((Int32 × Hp) ⊕ Hp)} (e : F_X4_sendGuests_b78 v0 v1 v2 v3 v4 v5 v6 v7 h = some o) (kI : ∀ z, o = .inl z → V M_X4_sendGuests x 1 41 [(0, .ref v0), (1, .int v1), (2, .ref v2), (3, .int v3), (4, .int v4), (5, .int v5), (6, .int v6), (7, .int z.1)] [] z.2 0 0) (kE84 : ∀ z : Hp, o = .inr z → V M_X4_sendGuests x 1 84 [(0, .ref v0), (1, .int v1), (2, .ref v2), (3, .int v3), (4, .int v4)] [] z 0 0) : V M_X4_sendGuests x 1 78 [(0, .ref v0), (1, .int v1), (2, .ref v2), (3, .int v3), (4, .int v4), (5, .int v5), (6, .int v6), (7, .int v7)] [] h 0 0 := by
  unfold F_X4_sendGuests_b78 at e
  refine V_iinc (pc := 78) (i := 7) (u := v7 + (1 : Int32)) (lv' := [(7, .int (v7 + (1 : Int32))), (0, .ref v0), (1, .int v1), (2, .ref v2), (3, .int v3), (4, .int v4), (5, .int v5), (6, .int v6)]) dX4_sendGuests_78 rfl rfl (by decide) rfl ?_
  refine V_goto (pc := 81) (tgt := 41) dX4_sendGuests_81 (by decide) ?_
  cases e
  exact V_pick [1, 2, 3, 4, 5, 6, 7, 0] rfl (kI _ rfl)
set_option maxRecDepth 100000 in
def F_X4_sendGuests_l41 (v0 : Nat) (v1 : Int32) (v2 : Nat) (v3 : Int32) (v4 : Int32) (v5 : Int32) (v6 : Int32) (v7 : Int32) (h : Hp) : Option ((Int32 × Hp) ⊕ Hp) :=
  gd (decide (kd h v2 = 2)) <| (if (zI h v2 0) ≤ v7 then some (.inr h) else gd (decide (kd h v0 = 4)) <| ob (zR h v0 0) fun q11 => gd (decide (kd h q11 = 13)) <| gd (ix (v5 + (v7 * v6)) (zl h q11)) <| (if (zI h q11 (v5 + (v7 * v6)).toNatClampNeg) = (-1 : Int32) then ob2 (F_X4_reach v0 (v5 + (v7 * v6)) v3 h) fun _ h17 => F_X4_sendGuests_b78 v0 v1 v2 v3 v4 v5 v6 v7 h17 else F_X4_sendGuests_b78 v0 v1 v2 v3 v4 v5 v6 v7 h))
set_option maxHeartbeats 4000000 in
set_option maxRecDepth 100000 in
theorem r_X4_sendGuests_l41 (v0 : Nat) (v1 : Int32) (v2 : Nat) (v3 : Int32) (v4 : Int32) (v5 : Int32) (v6 : Int32) (v7 : Int32) (h : Hp) {x : Cx} {o : ((Int32 × Hp) ⊕ Hp)} (e : F_X4_sendGuests_l41 v0 v1 v2 v3 v4 v5 v6 v7 h = some o) (kI : ∀ z, o = .inl z → V M_X4_sendGuests x 1 41 [(0, .ref v0), (1, .int v1), (2, .ref v2), (3, .int v3), (4, .int v4), (5, .int v5), (6, .int v6), (7, .int z.1)] [] z.2 0 0) (kE84 : ∀ z : Hp, o = .inr z → V M_X4_sendGuests x 1 84 [(0, .ref v0), (1, .int v1), (2, .ref v2), (3, .int v3), (4, .int v4)] [] z 0 0) : V M_X4_sendGuests x 1 41 [(0, .ref v0), (1, .int v1), (2, .ref v2), (3, .int v3), (4, .int v4), (5, .int v5), (6, .int v6), (7, .int v7)] [] h 0 0 := by
  unfold F_X4_sendGuests_l41 at e
  refine V_iload (pc := 41) (i := 7) dX4_sendGuests_41 rfl ?_
  refine V_aload_n (pc := 43) (i := 2) dX4_sendGuests_43 rfl rfl ?_
  obtain ⟨g9, e⟩ := gd_some e
  refine V_getI (pc := 44) (ci := 2) (k := 0) dX4_sendGuests_44 fl_X4_68 rfl (of_decide_eq_true g9) ?_
  refine V_icmp_ge (pc := 47) (tgt := 84) dX4_sendGuests_47 (by decide) (fun c19 => ?_) (fun c19 => ?_)
  · rw [if_pos c19] at e
    cases e
    exact V_pick [0, 1, 2, 3, 4] rfl (kE84 _ rfl)
  · rw [if_neg c19] at e
    refine V_pick [0, 1, 2, 3, 4, 5, 6, 7] rfl ?_
    refine V_iload (pc := 50) (i := 5) dX4_sendGuests_50 rfl ?_
    refine V_iload (pc := 52) (i := 7) dX4_sendGuests_52 rfl ?_
    refine V_iload (pc := 54) (i := 6) dX4_sendGuests_54 rfl ?_
    refine V_imul (pc := 56) dX4_sendGuests_56 ?_
    refine V_iadd (pc := 57) dX4_sendGuests_57 ?_
    refine V_istore (pc := 58) (i := 8) (lv' := [(8, .int (v5 + (v7 * v6))), (0, .ref v0), (1, .int v1), (2, .ref v2), (3, .int v3), (4, .int v4), (5, .int v5), (6, .int v6), (7, .int v7)]) dX4_sendGuests_58 (by decide) rfl ?_
    refine V_aload_n (pc := 60) (i := 0) dX4_sendGuests_60 rfl rfl ?_
    obtain ⟨g10, e⟩ := gd_some e
    obtain ⟨q11, g12, e⟩ := ob_some e
    refine V_getR (pc := 61) (ci := 4) (k := 0) (b := q11) dX4_sendGuests_61 fl_X4_9 rfl (of_decide_eq_true g10) g12 ?_
    refine V_iload (pc := 64) (i := 8) dX4_sendGuests_64 rfl ?_
    obtain ⟨g13, e⟩ := gd_some e
    obtain ⟨g14, e⟩ := gd_some e
    refine V_iald (pc := 66) dX4_sendGuests_66 (of_decide_eq_true g13) (ix_in g14) ?_
    refine V_iconst (pc := 67) (v := (-1 : Int32)) dX4_sendGuests_67 (by decide) ?_
    refine V_icmp_ne (pc := 68) (tgt := 78) dX4_sendGuests_68 (by decide) (fun c18 => ?_) (fun c18 => ?_)
    · rw [if_neg c18] at e
      exact V_pick [1, 2, 3, 4, 5, 6, 7, 8] rfl (r_X4_sendGuests_b78 v0 v1 v2 v3 v4 v5 v6 v7 h e kI kE84)
    · rw [if_pos c18] at e
      refine V_pick [1, 2, 3, 4, 5, 6, 7, 8, 0] rfl ?_
      refine V_aload_n (pc := 71) (i := 0) dX4_sendGuests_71 rfl rfl ?_
      refine V_iload (pc := 72) (i := 8) dX4_sendGuests_72 rfl ?_
      refine V_iload_n (pc := 74) (i := 3) dX4_sendGuests_74 rfl rfl ?_
      obtain ⟨r16, h17, g15, e⟩ := ob2_some e
      refine V_callV (pc := 75) (bc := 0) (bs := 0) (mc := 0) (ms := 0) (st := []) (As := [.int (v5 + (v7 * v6)), .int v3]) (a := v0) (h' := h17) (r := none) dX4_sendGuests_75 ml_X4_51 (ci := 4) rfl (of_decide_eq_true g10) rfl rfl (Nat.le_of_ble_eq_true rfl) (d' := 0) (by decide) (c_X4_reach (l := x.2.1) v0 (v5 + (v7 * v6)) v3 h g15) ?_
      exact V_pick [0, 1, 2, 3, 4, 5, 6, 7] rfl (r_X4_sendGuests_b78 v0 v1 v2 v3 v4 v5 v6 v7 h17 e kI kE84)
set_option maxRecDepth 100000 in
def F_X4_sendGuests_l12 (v0 : Nat) (v1 : Int32) (v2 : Nat) (v3 : Int32) (v4 : Int32) (h : Hp) : Option ((Int32 × Hp) ⊕ Hp) :=
  gd (decide (kd h v2 = 2)) <| (if (zI h v2 5) ≤ v4 then some (.inr h) else ob (F_X4_sent v1 v4 (0 : Int32) h) fun r8 => ob (iter (fun z : Int32 × Hp => F_X4_sendGuests_l41 v0 v1 v2 v3 v4 r8 ((1 : Int32) <<< (((3 : Int32) * v4) &&& 31)) z.1 z.2) FU ((0 : Int32), h)) (fun h20 => some (.inl (v4 + (1 : Int32), h20))))
set_option maxHeartbeats 4000000 in
set_option maxRecDepth 100000 in
theorem r_X4_sendGuests_l12 (v0 : Nat) (v1 : Int32) (v2 : Nat) (v3 : Int32) (v4 : Int32) (h : Hp) {x : Cx} {o : ((Int32 × Hp) ⊕ Hp)} (e : F_X4_sendGuests_l12 v0 v1 v2 v3 v4 h = some o) (kI : ∀ z, o = .inl z → V M_X4_sendGuests x 1 12 [(0, .ref v0), (1, .int v1), (2, .ref v2), (3, .int v3), (4, .int z.1)] [] z.2 0 0) (kE90 : ∀ z : Hp, o = .inr z → V M_X4_sendGuests x 1 90 [] [] z 0 0) : V M_X4_sendGuests x 1 12 [(0, .ref v0), (1, .int v1), (2, .ref v2), (3, .int v3), (4, .int v4)] [] h 0 0 := by
  unfold F_X4_sendGuests_l12 at e
  refine V_iload (pc := 12) (i := 4) dX4_sendGuests_12 rfl ?_
  refine V_aload_n (pc := 14) (i := 2) dX4_sendGuests_14 rfl rfl ?_
  obtain ⟨g6, e⟩ := gd_some e
  refine V_getI (pc := 15) (ci := 2) (k := 5) dX4_sendGuests_15 fl_X4_31 rfl (of_decide_eq_true g6) ?_
  refine V_icmp_ge (pc := 18) (tgt := 90) dX4_sendGuests_18 (by decide) (fun c23 => ?_) (fun c23 => ?_)
  · rw [if_pos c23] at e
    cases e
    exact V_pick [] rfl (kE90 _ rfl)
  · rw [if_neg c23] at e
    refine V_pick [0, 1, 2, 3, 4] rfl ?_
    refine V_iload_n (pc := 21) (i := 1) dX4_sendGuests_21 rfl rfl ?_
    refine V_iload (pc := 22) (i := 4) dX4_sendGuests_22 rfl ?_
    refine V_iconst (pc := 24) (v := (0 : Int32)) dX4_sendGuests_24 (by decide) ?_
    obtain ⟨r8, g7, e⟩ := ob_some e
    refine V_callS (pc := 25) (bc := 0) (bs := 0) (mc := 0) (ms := 0) (st := []) (As := [.int v1, .int v4, .int (0 : Int32)]) (h' := h) (r := some (.int r8)) dX4_sendGuests_25 ml_X4_64 rfl rfl (Nat.le_of_ble_eq_true rfl) (d' := 0) (by decide) (c_X4_sent (l := x.2.1) v1 v4 (0 : Int32) h g7) ?_
    refine V_istore (pc := 28) (i := 5) (lv' := [(5, .int r8), (0, .ref v0), (1, .int v1), (2, .ref v2), (3, .int v3), (4, .int v4)]) dX4_sendGuests_28 (by decide) rfl ?_
    refine V_iconst (pc := 30) (v := (1 : Int32)) dX4_sendGuests_30 (by decide) ?_
    refine V_iconst (pc := 31) (v := (3 : Int32)) dX4_sendGuests_31 (by decide) ?_
    refine V_iload (pc := 32) (i := 4) dX4_sendGuests_32 rfl ?_
    refine V_imul (pc := 34) dX4_sendGuests_34 ?_
    refine V_ishl (pc := 35) dX4_sendGuests_35 ?_
    refine V_istore (pc := 36) (i := 6) (lv' := [(6, .int ((1 : Int32) <<< (((3 : Int32) * v4) &&& 31))), (5, .int r8), (0, .ref v0), (1, .int v1), (2, .ref v2), (3, .int v3), (4, .int v4)]) dX4_sendGuests_36 (by decide) rfl ?_
    refine V_iconst (pc := 38) (v := (0 : Int32)) dX4_sendGuests_38 (by decide) ?_
    refine V_istore (pc := 39) (i := 7) (lv' := [(7, .int (0 : Int32)), (6, .int ((1 : Int32) <<< (((3 : Int32) * v4) &&& 31))), (5, .int r8), (0, .ref v0), (1, .int v1), (2, .ref v2), (3, .int v3), (4, .int v4)]) dX4_sendGuests_39 (by decide) rfl ?_
    refine V_pick [3, 4, 5, 6, 7, 2, 1, 0] rfl ?_
    obtain ⟨y21, g22, e⟩ := ob_some e
    refine iter_V (P := fun z : Int32 × Hp => V M_X4_sendGuests x 1 41 [(0, .ref v0), (1, .int v1), (2, .ref v2), (3, .int v3), (4, .int v4), (5, .int r8), (6, .int ((1 : Int32) <<< (((3 : Int32) * v4) &&& 31))), (7, .int z.1)] [] z.2 0 0) (E := fun z : Hp => V M_X4_sendGuests x 1 84 [(0, .ref v0), (1, .int v1), (2, .ref v2), (3, .int v3), (4, .int v4)] [] z 0 0) (fun z o e9 k1 k2 => r_X4_sendGuests_l41 v0 v1 v2 v3 v4 r8 ((1 : Int32) <<< (((3 : Int32) * v4) &&& 31)) z.1 z.2 e9 (fun z hz9 => k1 z hz9) (fun z hz9 => k2 _ hz9)) _ _ _ g22 ?_
    clear g22
    obtain ⟨h20, rfl⟩ : ∃ q, q = y21 := ⟨_, rfl⟩
    replace e : (some (.inl (v4 + (1 : Int32), h20))) = some o := e
    show V M_X4_sendGuests x 1 84 [(0, .ref v0), (1, .int v1), (2, .ref v2), (3, .int v3), (4, .int v4)] [] h20 0 0
    refine V_iinc (pc := 84) (i := 4) (u := v4 + (1 : Int32)) (lv' := [(4, .int (v4 + (1 : Int32))), (0, .ref v0), (1, .int v1), (2, .ref v2), (3, .int v3)]) dX4_sendGuests_84 rfl rfl (by decide) rfl ?_
    refine V_goto (pc := 87) (tgt := 12) dX4_sendGuests_87 (by decide) ?_
    cases e
    exact V_pick [1, 2, 3, 4, 0] rfl (kI _ rfl)
set_option maxRecDepth 100000 in
def F_X4_sendGuests_b0 (v0 : Nat) (v1 : Int32) (v2 : Nat) (h : Hp) : Option (Unit × Hp) :=
  gd (decide (kd h v0 = 4)) <| ob (zR h v0 0) fun q2 => gd (decide (kd h q2 = 13)) <| gd (ix v1 (zl h q2)) <| ob (iter (fun z : Int32 × Hp => F_X4_sendGuests_l12 v0 v1 v2 ((zI h q2 (v1).toNatClampNeg) + (1 : Int32)) z.1 z.2) FU ((0 : Int32), h)) (fun h24 => some ((), h24))
set_option maxHeartbeats 4000000 in
set_option maxRecDepth 100000 in
theorem r_X4_sendGuests_b0 (v0 : Nat) (v1 : Int32) (v2 : Nat) (h : Hp) {x : Cx} {r : Unit} {hz : Hp} (e : F_X4_sendGuests_b0 v0 v1 v2 h = some (r, hz)) (hF : Fin9 M_X4_sendGuests x none none hz) : V M_X4_sendGuests x 1 0 [(0, .ref v0), (1, .int v1), (2, .ref v2)] [] h 0 0 := by
  unfold F_X4_sendGuests_b0 at e
  refine V_aload_n (pc := 0) (i := 0) dX4_sendGuests_0 rfl rfl ?_
  obtain ⟨g1, e⟩ := gd_some e
  obtain ⟨q2, g3, e⟩ := ob_some e
  refine V_getR (pc := 1) (ci := 4) (k := 0) (b := q2) dX4_sendGuests_1 fl_X4_9 rfl (of_decide_eq_true g1) g3 ?_
  refine V_iload_n (pc := 4) (i := 1) dX4_sendGuests_4 rfl rfl ?_
  obtain ⟨g4, e⟩ := gd_some e
  obtain ⟨g5, e⟩ := gd_some e
  refine V_iald (pc := 5) dX4_sendGuests_5 (of_decide_eq_true g4) (ix_in g5) ?_
  refine V_iconst (pc := 6) (v := (1 : Int32)) dX4_sendGuests_6 (by decide) ?_
  refine V_iadd (pc := 7) dX4_sendGuests_7 ?_
  refine V_istore_n (pc := 8) (i := 3) (lv' := [(3, .int ((zI h q2 (v1).toNatClampNeg) + (1 : Int32))), (0, .ref v0), (1, .int v1), (2, .ref v2)]) dX4_sendGuests_8 rfl (by decide) rfl ?_
  refine V_iconst (pc := 9) (v := (0 : Int32)) dX4_sendGuests_9 (by decide) ?_
  refine V_istore (pc := 10) (i := 4) (lv' := [(4, .int (0 : Int32)), (3, .int ((zI h q2 (v1).toNatClampNeg) + (1 : Int32))), (0, .ref v0), (1, .int v1), (2, .ref v2)]) dX4_sendGuests_10 (by decide) rfl ?_
  refine V_pick [2, 3, 4, 1, 0] rfl ?_
  obtain ⟨y25, g26, e⟩ := ob_some e
  refine iter_V (P := fun z : Int32 × Hp => V M_X4_sendGuests x 1 12 [(0, .ref v0), (1, .int v1), (2, .ref v2), (3, .int ((zI h q2 (v1).toNatClampNeg) + (1 : Int32))), (4, .int z.1)] [] z.2 0 0) (E := fun z : Hp => V M_X4_sendGuests x 1 90 [] [] z 0 0) (fun z o e9 k1 k2 => r_X4_sendGuests_l12 v0 v1 v2 ((zI h q2 (v1).toNatClampNeg) + (1 : Int32)) z.1 z.2 e9 (fun z hz9 => k1 z hz9) (fun z hz9 => k2 _ hz9)) _ _ _ g26 ?_
  clear g26
  obtain ⟨h24, rfl⟩ : ∃ q, q = y25 := ⟨_, rfl⟩
  replace e : (some ((), h24)) = some (r, hz) := e
  show V M_X4_sendGuests x 1 90 [] [] h24 0 0
  cases e
  exact V_vret (pc := 90) dX4_sendGuests_90 hF
def F_X4_sendGuests (v0 : Nat) (v1 : Int32) (v2 : Nat) (h : Hp) : Option (Unit × Hp) := F_X4_sendGuests_b0 v0 v1 v2 h
theorem c_X4_sendGuests {l : Launch} (v0 : Nat) (v1 : Int32) (v2 : Nat) (h : Hp) {r : Unit} {hz : Hp} (e : F_X4_sendGuests v0 v1 v2 h = some (r, hz)) : Ct l yX4_sendGuests M_X4_sendGuests none 1 [.ref v0, .int v1, .ref v2] h 0 0 none hz :=
  Ct_of rfl rfl (fun q => by cases q) (Nat.le_of_ble_eq_true rfl) (fun x _ hF => V_pick [0, 1, 2] rfl (r_X4_sendGuests_b0 v0 v1 v2 h e hF))
theorem dX4_sendStove_0 : decode cX4_sendStove 0 = .ok (.iload_n 1, 1) := by decide +kernel
theorem dX4_sendStove_1 : decode cX4_sendStove 1 = .ok (.iload_n 2, 1) := by decide +kernel
theorem dX4_sendStove_2 : decode cX4_sendStove 2 = .ok (.ishr, 1) := by decide +kernel
theorem dX4_sendStove_3 : decode cX4_sendStove 3 = .ok (.istore 4, 2) := by decide +kernel
theorem dX4_sendStove_5 : decode cX4_sendStove 5 = .ok (.iload_n 1, 1) := by decide +kernel
theorem dX4_sendStove_6 : decode cX4_sendStove 6 = .ok (.iload 4, 2) := by decide +kernel
theorem dX4_sendStove_8 : decode cX4_sendStove 8 = .ok (.iload_n 2, 1) := by decide +kernel
theorem dX4_sendStove_9 : decode cX4_sendStove 9 = .ok (.ishl, 1) := by decide +kernel
theorem dX4_sendStove_10 : decode cX4_sendStove 10 = .ok (.isub, 1) := by decide +kernel
theorem dX4_sendStove_11 : decode cX4_sendStove 11 = .ok (.istore 5, 2) := by decide +kernel
theorem dX4_sendStove_13 : decode cX4_sendStove 13 = .ok (.iconst 0, 1) := by decide +kernel
theorem dX4_sendStove_14 : decode cX4_sendStove 14 = .ok (.istore 6, 2) := by decide +kernel
theorem dX4_sendStove_16 : decode cX4_sendStove 16 = .ok (.iload 6, 2) := by decide +kernel
theorem dX4_sendStove_18 : decode cX4_sendStove 18 = .ok (.aload_n 3, 1) := by decide +kernel
theorem dX4_sendStove_19 : decode cX4_sendStove 19 = .ok (.getfield 68, 3) := by decide +kernel
theorem dX4_sendStove_22 : decode cX4_sendStove 22 = .ok (.if_icmp .ge 39, 3) := by decide +kernel
theorem dX4_sendStove_25 : decode cX4_sendStove 25 = .ok (.aload_n 3, 1) := by decide +kernel
theorem dX4_sendStove_26 : decode cX4_sendStove 26 = .ok (.iload 4, 2) := by decide +kernel
theorem dX4_sendStove_28 : decode cX4_sendStove 28 = .ok (.iload 6, 2) := by decide +kernel
theorem dX4_sendStove_30 : decode cX4_sendStove 30 = .ok (.invokevirtual 90, 3) := by decide +kernel
theorem dX4_sendStove_33 : decode cX4_sendStove 33 = .ok (.ifCond .eq 22, 3) := by decide +kernel
theorem dX4_sendStove_36 : decode cX4_sendStove 36 = .ok (.aload_n 0, 1) := by decide +kernel
theorem dX4_sendStove_37 : decode cX4_sendStove 37 = .ok (.iload 5, 2) := by decide +kernel
theorem dX4_sendStove_39 : decode cX4_sendStove 39 = .ok (.iload 6, 2) := by decide +kernel
theorem dX4_sendStove_41 : decode cX4_sendStove 41 = .ok (.iload_n 2, 1) := by decide +kernel
theorem dX4_sendStove_42 : decode cX4_sendStove 42 = .ok (.ishl, 1) := by decide +kernel
theorem dX4_sendStove_43 : decode cX4_sendStove 43 = .ok (.iadd, 1) := by decide +kernel
theorem dX4_sendStove_44 : decode cX4_sendStove 44 = .ok (.aload_n 0, 1) := by decide +kernel
theorem dX4_sendStove_45 : decode cX4_sendStove 45 = .ok (.getfield 9, 3) := by decide +kernel
theorem dX4_sendStove_48 : decode cX4_sendStove 48 = .ok (.iload_n 1, 1) := by decide +kernel
theorem dX4_sendStove_49 : decode cX4_sendStove 49 = .ok (.iaload, 1) := by decide +kernel
theorem dX4_sendStove_50 : decode cX4_sendStove 50 = .ok (.iconst 1, 1) := by decide +kernel
theorem dX4_sendStove_51 : decode cX4_sendStove 51 = .ok (.iadd, 1) := by decide +kernel
theorem dX4_sendStove_52 : decode cX4_sendStove 52 = .ok (.invokevirtual 51, 3) := by decide +kernel
theorem dX4_sendStove_55 : decode cX4_sendStove 55 = .ok (.iinc 6 1, 3) := by decide +kernel
theorem dX4_sendStove_58 : decode cX4_sendStove 58 = .ok (.goto (-42), 3) := by decide +kernel
theorem dX4_sendStove_61 : decode cX4_sendStove 61 = .ok (.return_, 1) := by decide +kernel
set_option maxRecDepth 100000 in
def F_X4_sendStove_b55 (v0 : Nat) (v1 : Int32) (v2 : Int32) (v3 : Nat) (v4 : Int32) (v5 : Int32) (v6 : Int32) (h : Hp) : Option ((Int32 × Hp) ⊕ Hp) :=
  some (.inl (v6 + (1 : Int32), h))
set_option maxHeartbeats 4000000 in
set_option maxRecDepth 100000 in
theorem r_X4_sendStove_b55 (v0 : Nat) (v1 : Int32) (v2 : Int32) (v3 : Nat) (v4 : Int32) (v5 : Int32) (v6 : Int32) (h : Hp) {x : Cx} {o : ((Int32 × Hp) ⊕ Hp)} (e : F_X4_sendStove_b55 v0 v1 v2 v3 v4 v5 v6 h = some o) (kI : ∀ z, o = .inl z → V M_X4_sendStove x 2 16 [(0, .ref v0), (1, .int v1), (2, .int v2), (3, .ref v3), (4, .int v4), (5, .int v5), (6, .int z.1)] [] z.2 0 0) (kE61 : ∀ z : Hp, o = .inr z → V M_X4_sendStove x 2 61 [] [] z 0 0) : V M_X4_sendStove x 2 55 [(0, .ref v0), (1, .int v1), (2, .int v2), (3, .ref v3), (4, .int v4), (5, .int v5), (6, .int v6)] [] h 0 0 := by
  unfold F_X4_sendStove_b55 at e
  refine V_iinc (pc := 55) (i := 6) (u := v6 + (1 : Int32)) (lv' := [(6, .int (v6 + (1 : Int32))), (0, .ref v0), (1, .int v1), (2, .int v2), (3, .ref v3), (4, .int v4), (5, .int v5)]) dX4_sendStove_55 rfl rfl (by decide) rfl ?_
  refine V_goto (pc := 58) (tgt := 16) dX4_sendStove_58 (by decide) ?_
  cases e
  exact V_pick [1, 2, 3, 4, 5, 6, 0] rfl (kI _ rfl)
set_option maxRecDepth 100000 in
def F_X4_sendStove_l16 (v0 : Nat) (v1 : Int32) (v2 : Int32) (v3 : Nat) (v4 : Int32) (v5 : Int32) (v6 : Int32) (h : Hp) : Option ((Int32 × Hp) ⊕ Hp) :=
  gd (decide (kd h v3 = 2)) <| (if (zI h v3 0) ≤ v6 then some (.inr h) else ob (F_X2_isOneStep v3 v4 v6 h) fun r3 => (if r3 = 0 then F_X4_sendStove_b55 v0 v1 v2 v3 v4 v5 v6 h else gd (decide (kd h v0 = 4)) <| ob (zR h v0 0) fun q5 => gd (decide (kd h q5 = 13)) <| gd (ix v1 (zl h q5)) <| ob2 (F_X4_reach v0 (v5 + (v6 <<< (v2 &&& 31))) ((zI h q5 (v1).toNatClampNeg) + (1 : Int32)) h) fun _ h11 => F_X4_sendStove_b55 v0 v1 v2 v3 v4 v5 v6 h11))
set_option maxHeartbeats 4000000 in
set_option maxRecDepth 100000 in
theorem r_X4_sendStove_l16 (v0 : Nat) (v1 : Int32) (v2 : Int32) (v3 : Nat) (v4 : Int32) (v5 : Int32) (v6 : Int32) (h : Hp) {x : Cx} {o : ((Int32 × Hp) ⊕ Hp)} (e : F_X4_sendStove_l16 v0 v1 v2 v3 v4 v5 v6 h = some o) (kI : ∀ z, o = .inl z → V M_X4_sendStove x 2 16 [(0, .ref v0), (1, .int v1), (2, .int v2), (3, .ref v3), (4, .int v4), (5, .int v5), (6, .int z.1)] [] z.2 0 0) (kE61 : ∀ z : Hp, o = .inr z → V M_X4_sendStove x 2 61 [] [] z 0 0) : V M_X4_sendStove x 2 16 [(0, .ref v0), (1, .int v1), (2, .int v2), (3, .ref v3), (4, .int v4), (5, .int v5), (6, .int v6)] [] h 0 0 := by
  unfold F_X4_sendStove_l16 at e
  refine V_iload (pc := 16) (i := 6) dX4_sendStove_16 rfl ?_
  refine V_aload_n (pc := 18) (i := 3) dX4_sendStove_18 rfl rfl ?_
  obtain ⟨g1, e⟩ := gd_some e
  refine V_getI (pc := 19) (ci := 2) (k := 0) dX4_sendStove_19 fl_X4_68 rfl (of_decide_eq_true g1) ?_
  refine V_icmp_ge (pc := 22) (tgt := 61) dX4_sendStove_22 (by decide) (fun c13 => ?_) (fun c13 => ?_)
  · rw [if_pos c13] at e
    cases e
    exact V_pick [] rfl (kE61 _ rfl)
  · rw [if_neg c13] at e
    refine V_pick [0, 1, 2, 3, 4, 5, 6] rfl ?_
    refine V_aload_n (pc := 25) (i := 3) dX4_sendStove_25 rfl rfl ?_
    refine V_iload (pc := 26) (i := 4) dX4_sendStove_26 rfl ?_
    refine V_iload (pc := 28) (i := 6) dX4_sendStove_28 rfl ?_
    obtain ⟨r3, g2, e⟩ := ob_some e
    refine V_callV (pc := 30) (bc := 0) (bs := 0) (mc := 0) (ms := 0) (st := []) (As := [.int v4, .int v6]) (a := v3) (h' := h) (r := some (.int r3)) dX4_sendStove_30 ml_X4_90 (ci := 2) rfl (of_decide_eq_true g1) rfl rfl (Nat.le_of_ble_eq_true rfl) (d' := 1) (by decide) (c_X2_isOneStep (l := x.2.1) v3 v4 v6 h g2) ?_
    refine V_if_eq (pc := 33) (tgt := 55) dX4_sendStove_33 (by decide) (fun c12 => ?_) (fun c12 => ?_)
    · rw [if_pos c12] at e
      exact V_pick [0, 1, 2, 3, 4, 5, 6] rfl (r_X4_sendStove_b55 v0 v1 v2 v3 v4 v5 v6 h e kI kE61)
    · rw [if_neg c12] at e
      refine V_pick [0, 1, 2, 3, 4, 5, 6] rfl ?_
      refine V_aload_n (pc := 36) (i := 0) dX4_sendStove_36 rfl rfl ?_
      refine V_iload (pc := 37) (i := 5) dX4_sendStove_37 rfl ?_
      refine V_iload (pc := 39) (i := 6) dX4_sendStove_39 rfl ?_
      refine V_iload_n (pc := 41) (i := 2) dX4_sendStove_41 rfl rfl ?_
      refine V_ishl (pc := 42) dX4_sendStove_42 ?_
      refine V_iadd (pc := 43) dX4_sendStove_43 ?_
      refine V_aload_n (pc := 44) (i := 0) dX4_sendStove_44 rfl rfl ?_
      obtain ⟨g4, e⟩ := gd_some e
      obtain ⟨q5, g6, e⟩ := ob_some e
      refine V_getR (pc := 45) (ci := 4) (k := 0) (b := q5) dX4_sendStove_45 fl_X4_9 rfl (of_decide_eq_true g4) g6 ?_
      refine V_iload_n (pc := 48) (i := 1) dX4_sendStove_48 rfl rfl ?_
      obtain ⟨g7, e⟩ := gd_some e
      obtain ⟨g8, e⟩ := gd_some e
      refine V_iald (pc := 49) dX4_sendStove_49 (of_decide_eq_true g7) (ix_in g8) ?_
      refine V_iconst (pc := 50) (v := (1 : Int32)) dX4_sendStove_50 (by decide) ?_
      refine V_iadd (pc := 51) dX4_sendStove_51 ?_
      obtain ⟨r10, h11, g9, e⟩ := ob2_some e
      refine V_callV (pc := 52) (bc := 0) (bs := 0) (mc := 0) (ms := 0) (st := []) (As := [.int (v5 + (v6 <<< (v2 &&& 31))), .int ((zI h q5 (v1).toNatClampNeg) + (1 : Int32))]) (a := v0) (h' := h11) (r := none) dX4_sendStove_52 ml_X4_51 (ci := 4) rfl (of_decide_eq_true g4) rfl rfl (Nat.le_of_ble_eq_true rfl) (d' := 0) (by decide) (c_X4_reach (l := x.2.1) v0 (v5 + (v6 <<< (v2 &&& 31))) ((zI h q5 (v1).toNatClampNeg) + (1 : Int32)) h g9) ?_
      exact V_pick [0, 1, 2, 3, 4, 5, 6] rfl (r_X4_sendStove_b55 v0 v1 v2 v3 v4 v5 v6 h11 e kI kE61)
set_option maxRecDepth 100000 in
def F_X4_sendStove_b0 (v0 : Nat) (v1 : Int32) (v2 : Int32) (v3 : Nat) (h : Hp) : Option (Unit × Hp) :=
  ob (iter (fun z : Int32 × Hp => F_X4_sendStove_l16 v0 v1 v2 v3 (v1 >>> (v2 &&& 31)) (v1 - ((v1 >>> (v2 &&& 31)) <<< (v2 &&& 31))) z.1 z.2) FU ((0 : Int32), h)) (fun h14 => some ((), h14))
set_option maxHeartbeats 4000000 in
set_option maxRecDepth 100000 in
theorem r_X4_sendStove_b0 (v0 : Nat) (v1 : Int32) (v2 : Int32) (v3 : Nat) (h : Hp) {x : Cx} {r : Unit} {hz : Hp} (e : F_X4_sendStove_b0 v0 v1 v2 v3 h = some (r, hz)) (hF : Fin9 M_X4_sendStove x none none hz) : V M_X4_sendStove x 2 0 [(0, .ref v0), (1, .int v1), (2, .int v2), (3, .ref v3)] [] h 0 0 := by
  unfold F_X4_sendStove_b0 at e
  refine V_iload_n (pc := 0) (i := 1) dX4_sendStove_0 rfl rfl ?_
  refine V_iload_n (pc := 1) (i := 2) dX4_sendStove_1 rfl rfl ?_
  refine V_ishr (pc := 2) dX4_sendStove_2 ?_
  refine V_istore (pc := 3) (i := 4) (lv' := [(4, .int (v1 >>> (v2 &&& 31))), (0, .ref v0), (1, .int v1), (2, .int v2), (3, .ref v3)]) dX4_sendStove_3 (by decide) rfl ?_
  refine V_iload_n (pc := 5) (i := 1) dX4_sendStove_5 rfl rfl ?_
  refine V_iload (pc := 6) (i := 4) dX4_sendStove_6 rfl ?_
  refine V_iload_n (pc := 8) (i := 2) dX4_sendStove_8 rfl rfl ?_
  refine V_ishl (pc := 9) dX4_sendStove_9 ?_
  refine V_isub (pc := 10) dX4_sendStove_10 ?_
  refine V_istore (pc := 11) (i := 5) (lv' := [(5, .int (v1 - ((v1 >>> (v2 &&& 31)) <<< (v2 &&& 31)))), (4, .int (v1 >>> (v2 &&& 31))), (0, .ref v0), (1, .int v1), (2, .int v2), (3, .ref v3)]) dX4_sendStove_11 (by decide) rfl ?_
  refine V_iconst (pc := 13) (v := (0 : Int32)) dX4_sendStove_13 (by decide) ?_
  refine V_istore (pc := 14) (i := 6) (lv' := [(6, .int (0 : Int32)), (5, .int (v1 - ((v1 >>> (v2 &&& 31)) <<< (v2 &&& 31)))), (4, .int (v1 >>> (v2 &&& 31))), (0, .ref v0), (1, .int v1), (2, .int v2), (3, .ref v3)]) dX4_sendStove_14 (by decide) rfl ?_
  refine V_pick [3, 4, 5, 6, 2, 1, 0] rfl ?_
  obtain ⟨y15, g16, e⟩ := ob_some e
  refine iter_V (P := fun z : Int32 × Hp => V M_X4_sendStove x 2 16 [(0, .ref v0), (1, .int v1), (2, .int v2), (3, .ref v3), (4, .int (v1 >>> (v2 &&& 31))), (5, .int (v1 - ((v1 >>> (v2 &&& 31)) <<< (v2 &&& 31)))), (6, .int z.1)] [] z.2 0 0) (E := fun z : Hp => V M_X4_sendStove x 2 61 [] [] z 0 0) (fun z o e9 k1 k2 => r_X4_sendStove_l16 v0 v1 v2 v3 (v1 >>> (v2 &&& 31)) (v1 - ((v1 >>> (v2 &&& 31)) <<< (v2 &&& 31))) z.1 z.2 e9 (fun z hz9 => k1 z hz9) (fun z hz9 => k2 _ hz9)) _ _ _ g16 ?_
  clear g16
  obtain ⟨h14, rfl⟩ : ∃ q, q = y15 := ⟨_, rfl⟩
  replace e : (some ((), h14)) = some (r, hz) := e
  show V M_X4_sendStove x 2 61 [] [] h14 0 0
  cases e
  exact V_vret (pc := 61) dX4_sendStove_61 hF
def F_X4_sendStove (v0 : Nat) (v1 : Int32) (v2 : Int32) (v3 : Nat) (h : Hp) : Option (Unit × Hp) := F_X4_sendStove_b0 v0 v1 v2 v3 h
theorem c_X4_sendStove {l : Launch} (v0 : Nat) (v1 : Int32) (v2 : Int32) (v3 : Nat) (h : Hp) {r : Unit} {hz : Hp} (e : F_X4_sendStove v0 v1 v2 v3 h = some (r, hz)) : Ct l yX4_sendStove M_X4_sendStove none 2 [.ref v0, .int v1, .int v2, .ref v3] h 0 0 none hz :=
  Ct_of rfl rfl (fun q => by cases q) (Nat.le_of_ble_eq_true rfl) (fun x _ hF => V_pick [0, 1, 2, 3] rfl (r_X4_sendStove_b0 v0 v1 v2 v3 h e hF))
theorem dX6_append_0 : decode cX6_append 0 = .ok (.bipush 24, 2) := by decide +kernel
theorem dX6_append_2 : decode cX6_append 2 = .ok (.istore_n 2, 1) := by decide +kernel
theorem dX6_append_3 : decode cX6_append 3 = .ok (.iload_n 2, 1) := by decide +kernel
theorem dX6_append_4 : decode cX6_append 4 = .ok (.ifCond .lt 44, 3) := by decide +kernel
theorem dX6_append_7 : decode cX6_append 7 = .ok (.aload_n 0, 1) := by decide +kernel
theorem dX6_append_8 : decode cX6_append 8 = .ok (.getfield 15, 3) := by decide +kernel
theorem dX6_append_11 : decode cX6_append 11 = .ok (.aload_n 0, 1) := by decide +kernel
theorem dX6_append_12 : decode cX6_append 12 = .ok (.getfield 9, 3) := by decide +kernel
theorem dX6_append_15 : decode cX6_append 15 = .ok (.arraylength, 1) := by decide +kernel
theorem dX6_append_16 : decode cX6_append 16 = .ok (.if_icmp .ge 32, 3) := by decide +kernel
theorem dX6_append_19 : decode cX6_append 19 = .ok (.aload_n 0, 1) := by decide +kernel
theorem dX6_append_20 : decode cX6_append 20 = .ok (.getfield 9, 3) := by decide +kernel
theorem dX6_append_23 : decode cX6_append 23 = .ok (.aload_n 0, 1) := by decide +kernel
theorem dX6_append_24 : decode cX6_append 24 = .ok (.getfield 15, 3) := by decide +kernel
theorem dX6_append_27 : decode cX6_append 27 = .ok (.iload_n 1, 1) := by decide +kernel
theorem dX6_append_28 : decode cX6_append 28 = .ok (.iload_n 2, 1) := by decide +kernel
theorem dX6_append_29 : decode cX6_append 29 = .ok (.ishr, 1) := by decide +kernel
theorem dX6_append_30 : decode cX6_append 30 = .ok (.i2b, 1) := by decide +kernel
theorem dX6_append_31 : decode cX6_append 31 = .ok (.bastore, 1) := by decide +kernel
theorem dX6_append_32 : decode cX6_append 32 = .ok (.aload_n 0, 1) := by decide +kernel
theorem dX6_append_33 : decode cX6_append 33 = .ok (.dup, 1) := by decide +kernel
theorem dX6_append_34 : decode cX6_append 34 = .ok (.getfield 15, 3) := by decide +kernel
theorem dX6_append_37 : decode cX6_append 37 = .ok (.iconst 1, 1) := by decide +kernel
theorem dX6_append_38 : decode cX6_append 38 = .ok (.iadd, 1) := by decide +kernel
theorem dX6_append_39 : decode cX6_append 39 = .ok (.putfield 15, 3) := by decide +kernel
theorem dX6_append_42 : decode cX6_append 42 = .ok (.iinc 2 (-8), 3) := by decide +kernel
theorem dX6_append_45 : decode cX6_append 45 = .ok (.goto (-42), 3) := by decide +kernel
theorem dX6_append_48 : decode cX6_append 48 = .ok (.return_, 1) := by decide +kernel
set_option maxRecDepth 100000 in
def F_X6_append_l3 (v0 : Nat) (v1 : Int32) (v2 : Int32) (h : Hp) : Option ((Int32 × Hp) ⊕ Hp) :=
  (if v2 < 0 then some (.inr h) else gd (decide (kd h v0 = 6)) <| ob (zR h v0 0) fun q2 => gd (decide (kd h q2 = 12)) <| (if (Int32.ofNat (zl h q2)) ≤ (zI h v0 1) then some (.inr h) else ob (zR h v0 0) fun q5 => gd (decide (kd h q5 = 12)) <| gd (ix (zI h v0 1) (zl h q5)) <| some (.inl (v2 + (-8 : Int32), setI (setI h q5 (zI h v0 1).toNatClampNeg (vp_nar .byte ((v1 >>> (v2 &&& 31)).toInt8.toInt32))) v0 1 ((zI (setI h q5 (zI h v0 1).toNatClampNeg (vp_nar .byte ((v1 >>> (v2 &&& 31)).toInt8.toInt32))) v0 1) + (1 : Int32))))))
set_option maxHeartbeats 4000000 in
set_option maxRecDepth 100000 in
theorem r_X6_append_l3 (v0 : Nat) (v1 : Int32) (v2 : Int32) (h : Hp) {x : Cx} {o : ((Int32 × Hp) ⊕ Hp)} (e : F_X6_append_l3 v0 v1 v2 h = some o) (kI : ∀ z, o = .inl z → V M_X6_append x 0 3 [(0, .ref v0), (1, .int v1), (2, .int z.1)] [] z.2 0 0) (kE48 : ∀ z : Hp, o = .inr z → V M_X6_append x 0 48 [] [] z 0 0) : V M_X6_append x 0 3 [(0, .ref v0), (1, .int v1), (2, .int v2)] [] h 0 0 := by
  unfold F_X6_append_l3 at e
  refine V_iload_n (pc := 3) (i := 2) dX6_append_3 rfl rfl ?_
  refine V_if_lt (pc := 4) (tgt := 48) dX6_append_4 (by decide) (fun c10 => ?_) (fun c10 => ?_)
  · rw [if_pos c10] at e
    cases e
    exact V_pick [] rfl (kE48 _ rfl)
  · rw [if_neg c10] at e
    refine V_pick [0, 1, 2] rfl ?_
    refine V_aload_n (pc := 7) (i := 0) dX6_append_7 rfl rfl ?_
    obtain ⟨g1, e⟩ := gd_some e
    refine V_getI (pc := 8) (ci := 6) (k := 1) dX6_append_8 fl_X6_15 rfl (of_decide_eq_true g1) ?_
    refine V_aload_n (pc := 11) (i := 0) dX6_append_11 rfl rfl ?_
    obtain ⟨q2, g3, e⟩ := ob_some e
    refine V_getR (pc := 12) (ci := 6) (k := 0) (b := q2) dX6_append_12 fl_X6_9 rfl (of_decide_eq_true g1) g3 ?_
    obtain ⟨g4, e⟩ := gd_some e
    refine V_alen (pc := 15) (k := 12) dX6_append_15 (of_decide_eq_true g4) (by decide) ?_
    refine V_icmp_ge (pc := 16) (tgt := 48) dX6_append_16 (by decide) (fun c9 => ?_) (fun c9 => ?_)
    · rw [if_pos c9] at e
      cases e
      exact V_pick [] rfl (kE48 _ rfl)
    · rw [if_neg c9] at e
      refine V_pick [0, 1, 2] rfl ?_
      refine V_aload_n (pc := 19) (i := 0) dX6_append_19 rfl rfl ?_
      obtain ⟨q5, g6, e⟩ := ob_some e
      refine V_getR (pc := 20) (ci := 6) (k := 0) (b := q5) dX6_append_20 fl_X6_9 rfl (of_decide_eq_true g1) g6 ?_
      refine V_aload_n (pc := 23) (i := 0) dX6_append_23 rfl rfl ?_
      refine V_getI (pc := 24) (ci := 6) (k := 1) dX6_append_24 fl_X6_15 rfl (of_decide_eq_true g1) ?_
      refine V_iload_n (pc := 27) (i := 1) dX6_append_27 rfl rfl ?_
      refine V_iload_n (pc := 28) (i := 2) dX6_append_28 rfl rfl ?_
      refine V_ishr (pc := 29) dX6_append_29 ?_
      refine V_i2b (pc := 30) dX6_append_30 ?_
      obtain ⟨g7, e⟩ := gd_some e
      obtain ⟨g8, e⟩ := gd_some e
      refine V_bast (pc := 31) dX6_append_31 (of_decide_eq_true g7) (ix_in g8) ?_
      refine V_aload_n (pc := 32) (i := 0) dX6_append_32 rfl rfl ?_
      refine V_dup (pc := 33) dX6_append_33 rfl ?_
      refine V_getI (pc := 34) (ci := 6) (k := 1) dX6_append_34 fl_X6_15 rfl (of_decide_eq_true g1) ?_
      refine V_iconst (pc := 37) (v := (1 : Int32)) dX6_append_37 (by decide) ?_
      refine V_iadd (pc := 38) dX6_append_38 ?_
      refine V_putI (pc := 39) (ci := 6) (k := 1) dX6_append_39 fp_X6_15 rfl (of_decide_eq_true g1) ?_
      refine V_iinc (pc := 42) (i := 2) (u := v2 + (-8 : Int32)) (lv' := [(2, .int (v2 + (-8 : Int32))), (0, .ref v0), (1, .int v1)]) dX6_append_42 rfl rfl (by decide) rfl ?_
      refine V_goto (pc := 45) (tgt := 3) dX6_append_45 (by decide) ?_
      cases e
      exact V_pick [1, 2, 0] rfl (kI _ rfl)
set_option maxRecDepth 100000 in
def F_X6_append_b48  (h : Hp) : Option (Unit × Hp) :=
  some ((), h)
set_option maxHeartbeats 4000000 in
set_option maxRecDepth 100000 in
theorem r_X6_append_b48  (h : Hp) {x : Cx} {r : Unit} {hz : Hp} (e : F_X6_append_b48  h = some (r, hz)) (hF : Fin9 M_X6_append x none none hz) : V M_X6_append x 0 48 [] [] h 0 0 := by
  unfold F_X6_append_b48 at e
  cases e
  exact V_vret (pc := 48) dX6_append_48 hF
set_option maxRecDepth 100000 in
def F_X6_append_b0 (v0 : Nat) (v1 : Int32) (h : Hp) : Option (Unit × Hp) :=
  ob (iter (fun z : Int32 × Hp => F_X6_append_l3 v0 v1 z.1 z.2) FU ((24 : Int32), h)) (fun h11 => F_X6_append_b48 h11)
set_option maxHeartbeats 4000000 in
set_option maxRecDepth 100000 in
theorem r_X6_append_b0 (v0 : Nat) (v1 : Int32) (h : Hp) {x : Cx} {r : Unit} {hz : Hp} (e : F_X6_append_b0 v0 v1 h = some (r, hz)) (hF : Fin9 M_X6_append x none none hz) : V M_X6_append x 0 0 [(0, .ref v0), (1, .int v1)] [] h 0 0 := by
  unfold F_X6_append_b0 at e
  refine V_bipush (pc := 0) (v := (24 : Int32)) dX6_append_0 (by decide) ?_
  refine V_istore_n (pc := 2) (i := 2) (lv' := [(2, .int (24 : Int32)), (0, .ref v0), (1, .int v1)]) dX6_append_2 rfl (by decide) rfl ?_
  refine V_pick [1, 2, 0] rfl ?_
  obtain ⟨y12, g13, e⟩ := ob_some e
  refine iter_V (P := fun z : Int32 × Hp => V M_X6_append x 0 3 [(0, .ref v0), (1, .int v1), (2, .int z.1)] [] z.2 0 0) (E := fun z : Hp => V M_X6_append x 0 48 [] [] z 0 0) (fun z o e9 k1 k2 => r_X6_append_l3 v0 v1 z.1 z.2 e9 (fun z hz9 => k1 z hz9) (fun z hz9 => k2 _ hz9)) _ _ _ g13 ?_
  clear g13
  obtain ⟨h11, rfl⟩ : ∃ q, q = y12 := ⟨_, rfl⟩
  replace e : (F_X6_append_b48 h11) = some (r, hz) := e
  show V M_X6_append x 0 48 [] [] h11 0 0
  exact V_pick [] rfl (r_X6_append_b48 h11 e hF)
def F_X6_append (v0 : Nat) (v1 : Int32) (h : Hp) : Option (Unit × Hp) := F_X6_append_b0 v0 v1 h
theorem c_X6_append {l : Launch} (v0 : Nat) (v1 : Int32) (h : Hp) {r : Unit} {hz : Hp} (e : F_X6_append v0 v1 h = some (r, hz)) : Ct l yX6_append M_X6_append none 0 [.ref v0, .int v1] h 0 0 none hz :=
  Ct_of rfl rfl (fun q => by cases q) (Nat.le_of_ble_eq_true rfl) (fun x _ hF => V_pick [0, 1] rfl (r_X6_append_b0 v0 v1 h e hF))
theorem dX6_lookAtNext_0 : decode cX6_lookAtNext 0 = .ok (.aload_n 0, 1) := by decide +kernel
theorem dX6_lookAtNext_1 : decode cX6_lookAtNext 1 = .ok (.aload_n 0, 1) := by decide +kernel
theorem dX6_lookAtNext_2 : decode cX6_lookAtNext 2 = .ok (.getfield 25, 3) := by decide +kernel
theorem dX6_lookAtNext_5 : decode cX6_lookAtNext 5 = .ok (.putfield 22, 3) := by decide +kernel
theorem dX6_lookAtNext_8 : decode cX6_lookAtNext 8 = .ok (.aload_n 0, 1) := by decide +kernel
theorem dX6_lookAtNext_9 : decode cX6_lookAtNext 9 = .ok (.getfield 22, 3) := by decide +kernel
theorem dX6_lookAtNext_12 : decode cX6_lookAtNext 12 = .ok (.aload_n 0, 1) := by decide +kernel
theorem dX6_lookAtNext_13 : decode cX6_lookAtNext 13 = .ok (.getfield 15, 3) := by decide +kernel
theorem dX6_lookAtNext_16 : decode cX6_lookAtNext 16 = .ok (.if_icmp .ge 30, 3) := by decide +kernel
theorem dX6_lookAtNext_19 : decode cX6_lookAtNext 19 = .ok (.aload_n 0, 1) := by decide +kernel
theorem dX6_lookAtNext_20 : decode cX6_lookAtNext 20 = .ok (.getfield 9, 3) := by decide +kernel
theorem dX6_lookAtNext_23 : decode cX6_lookAtNext 23 = .ok (.aload_n 0, 1) := by decide +kernel
theorem dX6_lookAtNext_24 : decode cX6_lookAtNext 24 = .ok (.getfield 22, 3) := by decide +kernel
theorem dX6_lookAtNext_27 : decode cX6_lookAtNext 27 = .ok (.baload, 1) := by decide +kernel
theorem dX6_lookAtNext_28 : decode cX6_lookAtNext 28 = .ok (.bipush 32, 2) := by decide +kernel
theorem dX6_lookAtNext_30 : decode cX6_lookAtNext 30 = .ok (.if_icmp .ne 16, 3) := by decide +kernel
theorem dX6_lookAtNext_33 : decode cX6_lookAtNext 33 = .ok (.aload_n 0, 1) := by decide +kernel
theorem dX6_lookAtNext_34 : decode cX6_lookAtNext 34 = .ok (.dup, 1) := by decide +kernel
theorem dX6_lookAtNext_35 : decode cX6_lookAtNext 35 = .ok (.getfield 22, 3) := by decide +kernel
theorem dX6_lookAtNext_38 : decode cX6_lookAtNext 38 = .ok (.iconst 1, 1) := by decide +kernel
theorem dX6_lookAtNext_39 : decode cX6_lookAtNext 39 = .ok (.iadd, 1) := by decide +kernel
theorem dX6_lookAtNext_40 : decode cX6_lookAtNext 40 = .ok (.putfield 22, 3) := by decide +kernel
theorem dX6_lookAtNext_43 : decode cX6_lookAtNext 43 = .ok (.goto (-35), 3) := by decide +kernel
theorem dX6_lookAtNext_46 : decode cX6_lookAtNext 46 = .ok (.aload_n 0, 1) := by decide +kernel
theorem dX6_lookAtNext_47 : decode cX6_lookAtNext 47 = .ok (.aload_n 0, 1) := by decide +kernel
theorem dX6_lookAtNext_48 : decode cX6_lookAtNext 48 = .ok (.getfield 22, 3) := by decide +kernel
theorem dX6_lookAtNext_51 : decode cX6_lookAtNext 51 = .ok (.putfield 25, 3) := by decide +kernel
theorem dX6_lookAtNext_54 : decode cX6_lookAtNext 54 = .ok (.aload_n 0, 1) := by decide +kernel
theorem dX6_lookAtNext_55 : decode cX6_lookAtNext 55 = .ok (.getfield 25, 3) := by decide +kernel
theorem dX6_lookAtNext_58 : decode cX6_lookAtNext 58 = .ok (.aload_n 0, 1) := by decide +kernel
theorem dX6_lookAtNext_59 : decode cX6_lookAtNext 59 = .ok (.getfield 15, 3) := by decide +kernel
theorem dX6_lookAtNext_62 : decode cX6_lookAtNext 62 = .ok (.if_icmp .ge 44, 3) := by decide +kernel
theorem dX6_lookAtNext_65 : decode cX6_lookAtNext 65 = .ok (.aload_n 0, 1) := by decide +kernel
theorem dX6_lookAtNext_66 : decode cX6_lookAtNext 66 = .ok (.getfield 9, 3) := by decide +kernel
theorem dX6_lookAtNext_69 : decode cX6_lookAtNext 69 = .ok (.aload_n 0, 1) := by decide +kernel
theorem dX6_lookAtNext_70 : decode cX6_lookAtNext 70 = .ok (.getfield 25, 3) := by decide +kernel
theorem dX6_lookAtNext_73 : decode cX6_lookAtNext 73 = .ok (.baload, 1) := by decide +kernel
theorem dX6_lookAtNext_74 : decode cX6_lookAtNext 74 = .ok (.bipush 97, 2) := by decide +kernel
theorem dX6_lookAtNext_76 : decode cX6_lookAtNext 76 = .ok (.if_icmp .lt 30, 3) := by decide +kernel
theorem dX6_lookAtNext_79 : decode cX6_lookAtNext 79 = .ok (.aload_n 0, 1) := by decide +kernel
theorem dX6_lookAtNext_80 : decode cX6_lookAtNext 80 = .ok (.getfield 9, 3) := by decide +kernel
theorem dX6_lookAtNext_83 : decode cX6_lookAtNext 83 = .ok (.aload_n 0, 1) := by decide +kernel
theorem dX6_lookAtNext_84 : decode cX6_lookAtNext 84 = .ok (.getfield 25, 3) := by decide +kernel
theorem dX6_lookAtNext_87 : decode cX6_lookAtNext 87 = .ok (.baload, 1) := by decide +kernel
theorem dX6_lookAtNext_88 : decode cX6_lookAtNext 88 = .ok (.bipush 122, 2) := by decide +kernel
theorem dX6_lookAtNext_90 : decode cX6_lookAtNext 90 = .ok (.if_icmp .gt 16, 3) := by decide +kernel
theorem dX6_lookAtNext_93 : decode cX6_lookAtNext 93 = .ok (.aload_n 0, 1) := by decide +kernel
theorem dX6_lookAtNext_94 : decode cX6_lookAtNext 94 = .ok (.dup, 1) := by decide +kernel
theorem dX6_lookAtNext_95 : decode cX6_lookAtNext 95 = .ok (.getfield 25, 3) := by decide +kernel
theorem dX6_lookAtNext_98 : decode cX6_lookAtNext 98 = .ok (.iconst 1, 1) := by decide +kernel
theorem dX6_lookAtNext_99 : decode cX6_lookAtNext 99 = .ok (.iadd, 1) := by decide +kernel
theorem dX6_lookAtNext_100 : decode cX6_lookAtNext 100 = .ok (.putfield 25, 3) := by decide +kernel
theorem dX6_lookAtNext_103 : decode cX6_lookAtNext 103 = .ok (.goto (-49), 3) := by decide +kernel
theorem dX6_lookAtNext_106 : decode cX6_lookAtNext 106 = .ok (.aload_n 0, 1) := by decide +kernel
theorem dX6_lookAtNext_107 : decode cX6_lookAtNext 107 = .ok (.getfield 25, 3) := by decide +kernel
theorem dX6_lookAtNext_110 : decode cX6_lookAtNext 110 = .ok (.aload_n 0, 1) := by decide +kernel
theorem dX6_lookAtNext_111 : decode cX6_lookAtNext 111 = .ok (.getfield 22, 3) := by decide +kernel
theorem dX6_lookAtNext_114 : decode cX6_lookAtNext 114 = .ok (.if_icmp .le 9, 3) := by decide +kernel
theorem dX6_lookAtNext_117 : decode cX6_lookAtNext 117 = .ok (.aload_n 0, 1) := by decide +kernel
theorem dX6_lookAtNext_118 : decode cX6_lookAtNext 118 = .ok (.iconst 1, 1) := by decide +kernel
theorem dX6_lookAtNext_119 : decode cX6_lookAtNext 119 = .ok (.putfield 19, 3) := by decide +kernel
theorem dX6_lookAtNext_122 : decode cX6_lookAtNext 122 = .ok (.return_, 1) := by decide +kernel
theorem dX6_lookAtNext_123 : decode cX6_lookAtNext 123 = .ok (.aload_n 0, 1) := by decide +kernel
theorem dX6_lookAtNext_124 : decode cX6_lookAtNext 124 = .ok (.getfield 25, 3) := by decide +kernel
theorem dX6_lookAtNext_127 : decode cX6_lookAtNext 127 = .ok (.aload_n 0, 1) := by decide +kernel
theorem dX6_lookAtNext_128 : decode cX6_lookAtNext 128 = .ok (.getfield 15, 3) := by decide +kernel
theorem dX6_lookAtNext_131 : decode cX6_lookAtNext 131 = .ok (.if_icmp .ge 44, 3) := by decide +kernel
theorem dX6_lookAtNext_134 : decode cX6_lookAtNext 134 = .ok (.aload_n 0, 1) := by decide +kernel
theorem dX6_lookAtNext_135 : decode cX6_lookAtNext 135 = .ok (.getfield 9, 3) := by decide +kernel
theorem dX6_lookAtNext_138 : decode cX6_lookAtNext 138 = .ok (.aload_n 0, 1) := by decide +kernel
theorem dX6_lookAtNext_139 : decode cX6_lookAtNext 139 = .ok (.getfield 25, 3) := by decide +kernel
theorem dX6_lookAtNext_142 : decode cX6_lookAtNext 142 = .ok (.baload, 1) := by decide +kernel
theorem dX6_lookAtNext_143 : decode cX6_lookAtNext 143 = .ok (.bipush 48, 2) := by decide +kernel
theorem dX6_lookAtNext_145 : decode cX6_lookAtNext 145 = .ok (.if_icmp .lt 30, 3) := by decide +kernel
theorem dX6_lookAtNext_148 : decode cX6_lookAtNext 148 = .ok (.aload_n 0, 1) := by decide +kernel
theorem dX6_lookAtNext_149 : decode cX6_lookAtNext 149 = .ok (.getfield 9, 3) := by decide +kernel
theorem dX6_lookAtNext_152 : decode cX6_lookAtNext 152 = .ok (.aload_n 0, 1) := by decide +kernel
theorem dX6_lookAtNext_153 : decode cX6_lookAtNext 153 = .ok (.getfield 25, 3) := by decide +kernel
theorem dX6_lookAtNext_156 : decode cX6_lookAtNext 156 = .ok (.baload, 1) := by decide +kernel
theorem dX6_lookAtNext_157 : decode cX6_lookAtNext 157 = .ok (.bipush 57, 2) := by decide +kernel
theorem dX6_lookAtNext_159 : decode cX6_lookAtNext 159 = .ok (.if_icmp .gt 16, 3) := by decide +kernel
theorem dX6_lookAtNext_162 : decode cX6_lookAtNext 162 = .ok (.aload_n 0, 1) := by decide +kernel
theorem dX6_lookAtNext_163 : decode cX6_lookAtNext 163 = .ok (.dup, 1) := by decide +kernel
theorem dX6_lookAtNext_164 : decode cX6_lookAtNext 164 = .ok (.getfield 25, 3) := by decide +kernel
theorem dX6_lookAtNext_167 : decode cX6_lookAtNext 167 = .ok (.iconst 1, 1) := by decide +kernel
theorem dX6_lookAtNext_168 : decode cX6_lookAtNext 168 = .ok (.iadd, 1) := by decide +kernel
theorem dX6_lookAtNext_169 : decode cX6_lookAtNext 169 = .ok (.putfield 25, 3) := by decide +kernel
theorem dX6_lookAtNext_172 : decode cX6_lookAtNext 172 = .ok (.goto (-49), 3) := by decide +kernel
theorem dX6_lookAtNext_175 : decode cX6_lookAtNext 175 = .ok (.aload_n 0, 1) := by decide +kernel
theorem dX6_lookAtNext_176 : decode cX6_lookAtNext 176 = .ok (.getfield 25, 3) := by decide +kernel
theorem dX6_lookAtNext_179 : decode cX6_lookAtNext 179 = .ok (.aload_n 0, 1) := by decide +kernel
theorem dX6_lookAtNext_180 : decode cX6_lookAtNext 180 = .ok (.getfield 22, 3) := by decide +kernel
theorem dX6_lookAtNext_183 : decode cX6_lookAtNext 183 = .ok (.if_icmp .le 9, 3) := by decide +kernel
theorem dX6_lookAtNext_186 : decode cX6_lookAtNext 186 = .ok (.aload_n 0, 1) := by decide +kernel
theorem dX6_lookAtNext_187 : decode cX6_lookAtNext 187 = .ok (.iconst 2, 1) := by decide +kernel
theorem dX6_lookAtNext_188 : decode cX6_lookAtNext 188 = .ok (.putfield 19, 3) := by decide +kernel
theorem dX6_lookAtNext_191 : decode cX6_lookAtNext 191 = .ok (.return_, 1) := by decide +kernel
theorem dX6_lookAtNext_192 : decode cX6_lookAtNext 192 = .ok (.aload_n 0, 1) := by decide +kernel
theorem dX6_lookAtNext_193 : decode cX6_lookAtNext 193 = .ok (.aload_n 0, 1) := by decide +kernel
theorem dX6_lookAtNext_194 : decode cX6_lookAtNext 194 = .ok (.getfield 22, 3) := by decide +kernel
theorem dX6_lookAtNext_197 : decode cX6_lookAtNext 197 = .ok (.aload_n 0, 1) := by decide +kernel
theorem dX6_lookAtNext_198 : decode cX6_lookAtNext 198 = .ok (.getfield 15, 3) := by decide +kernel
theorem dX6_lookAtNext_201 : decode cX6_lookAtNext 201 = .ok (.if_icmp .ge 7, 3) := by decide +kernel
theorem dX6_lookAtNext_204 : decode cX6_lookAtNext 204 = .ok (.iconst 3, 1) := by decide +kernel
theorem dX6_lookAtNext_205 : decode cX6_lookAtNext 205 = .ok (.goto 4, 3) := by decide +kernel
theorem dX6_lookAtNext_208 : decode cX6_lookAtNext 208 = .ok (.iconst 0, 1) := by decide +kernel
theorem dX6_lookAtNext_209 : decode cX6_lookAtNext 209 = .ok (.putfield 19, 3) := by decide +kernel
theorem dX6_lookAtNext_212 : decode cX6_lookAtNext 212 = .ok (.aload_n 0, 1) := by decide +kernel
theorem dX6_lookAtNext_213 : decode cX6_lookAtNext 213 = .ok (.aload_n 0, 1) := by decide +kernel
theorem dX6_lookAtNext_214 : decode cX6_lookAtNext 214 = .ok (.getfield 15, 3) := by decide +kernel
theorem dX6_lookAtNext_217 : decode cX6_lookAtNext 217 = .ok (.aload_n 0, 1) := by decide +kernel
theorem dX6_lookAtNext_218 : decode cX6_lookAtNext 218 = .ok (.getfield 22, 3) := by decide +kernel
theorem dX6_lookAtNext_221 : decode cX6_lookAtNext 221 = .ok (.iconst 1, 1) := by decide +kernel
theorem dX6_lookAtNext_222 : decode cX6_lookAtNext 222 = .ok (.iadd, 1) := by decide +kernel
theorem dX6_lookAtNext_223 : decode cX6_lookAtNext 223 = .ok (.invokestatic 37, 3) := by decide +kernel
theorem dX6_lookAtNext_226 : decode cX6_lookAtNext 226 = .ok (.putfield 25, 3) := by decide +kernel
theorem dX6_lookAtNext_229 : decode cX6_lookAtNext 229 = .ok (.return_, 1) := by decide +kernel
set_option maxRecDepth 100000 in
def F_X6_lookAtNext_l8 (v0 : Nat) (h : Hp) : Option (Hp ⊕ Hp) :=
  gd (decide (kd h v0 = 6)) <| (if (zI h v0 1) ≤ (zI h v0 3) then some (.inr h) else ob (zR h v0 0) fun q3 => gd (decide (kd h q3 = 12)) <| gd (ix (zI h v0 3) (zl h q3)) <| (if (zI h q3 (zI h v0 3).toNatClampNeg) = (32 : Int32) then some (.inl (setI h v0 3 ((zI h v0 3) + (1 : Int32)))) else some (.inr h)))
set_option maxHeartbeats 4000000 in
set_option maxRecDepth 100000 in
theorem r_X6_lookAtNext_l8 (v0 : Nat) (h : Hp) {x : Cx} {o : (Hp ⊕ Hp)} (e : F_X6_lookAtNext_l8 v0 h = some o) (kI : ∀ z, o = .inl z → V M_X6_lookAtNext x 1 8 [(0, .ref v0)] [] z 0 0) (kE46 : ∀ z : Hp, o = .inr z → V M_X6_lookAtNext x 1 46 [(0, .ref v0)] [] z 0 0) : V M_X6_lookAtNext x 1 8 [(0, .ref v0)] [] h 0 0 := by
  unfold F_X6_lookAtNext_l8 at e
  refine V_aload_n (pc := 8) (i := 0) dX6_lookAtNext_8 rfl rfl ?_
  obtain ⟨g2, e⟩ := gd_some e
  refine V_getI (pc := 9) (ci := 6) (k := 3) dX6_lookAtNext_9 fl_X6_22 rfl (of_decide_eq_true g2) ?_
  refine V_aload_n (pc := 12) (i := 0) dX6_lookAtNext_12 rfl rfl ?_
  refine V_getI (pc := 13) (ci := 6) (k := 1) dX6_lookAtNext_13 fl_X6_15 rfl (of_decide_eq_true g2) ?_
  refine V_icmp_ge (pc := 16) (tgt := 46) dX6_lookAtNext_16 (by decide) (fun c8 => ?_) (fun c8 => ?_)
  · rw [if_pos c8] at e
    cases e
    exact V_pick [0] rfl (kE46 _ rfl)
  · rw [if_neg c8] at e
    refine V_pick [0] rfl ?_
    refine V_aload_n (pc := 19) (i := 0) dX6_lookAtNext_19 rfl rfl ?_
    obtain ⟨q3, g4, e⟩ := ob_some e
    refine V_getR (pc := 20) (ci := 6) (k := 0) (b := q3) dX6_lookAtNext_20 fl_X6_9 rfl (of_decide_eq_true g2) g4 ?_
    refine V_aload_n (pc := 23) (i := 0) dX6_lookAtNext_23 rfl rfl ?_
    refine V_getI (pc := 24) (ci := 6) (k := 3) dX6_lookAtNext_24 fl_X6_22 rfl (of_decide_eq_true g2) ?_
    obtain ⟨g5, e⟩ := gd_some e
    obtain ⟨g6, e⟩ := gd_some e
    refine V_bald (pc := 27) dX6_lookAtNext_27 (of_decide_eq_true g5) (ix_in g6) ?_
    refine V_bipush (pc := 28) (v := (32 : Int32)) dX6_lookAtNext_28 (by decide) ?_
    refine V_icmp_ne (pc := 30) (tgt := 46) dX6_lookAtNext_30 (by decide) (fun c7 => ?_) (fun c7 => ?_)
    · rw [if_neg c7] at e
      cases e
      exact V_pick [0] rfl (kE46 _ rfl)
    · rw [if_pos c7] at e
      refine V_pick [0] rfl ?_
      refine V_aload_n (pc := 33) (i := 0) dX6_lookAtNext_33 rfl rfl ?_
      refine V_dup (pc := 34) dX6_lookAtNext_34 rfl ?_
      refine V_getI (pc := 35) (ci := 6) (k := 3) dX6_lookAtNext_35 fl_X6_22 rfl (of_decide_eq_true g2) ?_
      refine V_iconst (pc := 38) (v := (1 : Int32)) dX6_lookAtNext_38 (by decide) ?_
      refine V_iadd (pc := 39) dX6_lookAtNext_39 ?_
      refine V_putI (pc := 40) (ci := 6) (k := 3) dX6_lookAtNext_40 fp_X6_22 rfl (of_decide_eq_true g2) ?_
      refine V_goto (pc := 43) (tgt := 8) dX6_lookAtNext_43 (by decide) ?_
      cases e
      exact V_pick [0] rfl (kI _ rfl)
set_option maxRecDepth 100000 in
def F_X6_lookAtNext_l54 (v0 : Nat) (h : Hp) : Option (Hp ⊕ Hp) :=
  gd (decide (kd h v0 = 6)) <| (if (zI h v0 1) ≤ (zI h v0 4) then some (.inr h) else ob (zR h v0 0) fun q12 => gd (decide (kd h q12 = 12)) <| gd (ix (zI h v0 4) (zl h q12)) <| (if (zI h q12 (zI h v0 4).toNatClampNeg) < (97 : Int32) then some (.inr h) else ob (zR h v0 0) fun q16 => gd (decide (kd h q16 = 12)) <| gd (ix (zI h v0 4) (zl h q16)) <| (if (122 : Int32) < (zI h q16 (zI h v0 4).toNatClampNeg) then some (.inr h) else some (.inl (setI h v0 4 ((zI h v0 4) + (1 : Int32)))))))
set_option maxHeartbeats 4000000 in
set_option maxRecDepth 100000 in
theorem r_X6_lookAtNext_l54 (v0 : Nat) (h : Hp) {x : Cx} {o : (Hp ⊕ Hp)} (e : F_X6_lookAtNext_l54 v0 h = some o) (kI : ∀ z, o = .inl z → V M_X6_lookAtNext x 1 54 [(0, .ref v0)] [] z 0 0) (kE106 : ∀ z : Hp, o = .inr z → V M_X6_lookAtNext x 1 106 [(0, .ref v0)] [] z 0 0) : V M_X6_lookAtNext x 1 54 [(0, .ref v0)] [] h 0 0 := by
  unfold F_X6_lookAtNext_l54 at e
  refine V_aload_n (pc := 54) (i := 0) dX6_lookAtNext_54 rfl rfl ?_
  obtain ⟨g11, e⟩ := gd_some e
  refine V_getI (pc := 55) (ci := 6) (k := 4) dX6_lookAtNext_55 fl_X6_25 rfl (of_decide_eq_true g11) ?_
  refine V_aload_n (pc := 58) (i := 0) dX6_lookAtNext_58 rfl rfl ?_
  refine V_getI (pc := 59) (ci := 6) (k := 1) dX6_lookAtNext_59 fl_X6_15 rfl (of_decide_eq_true g11) ?_
  refine V_icmp_ge (pc := 62) (tgt := 106) dX6_lookAtNext_62 (by decide) (fun c22 => ?_) (fun c22 => ?_)
  · rw [if_pos c22] at e
    cases e
    exact V_pick [0] rfl (kE106 _ rfl)
  · rw [if_neg c22] at e
    refine V_pick [0] rfl ?_
    refine V_aload_n (pc := 65) (i := 0) dX6_lookAtNext_65 rfl rfl ?_
    obtain ⟨q12, g13, e⟩ := ob_some e
    refine V_getR (pc := 66) (ci := 6) (k := 0) (b := q12) dX6_lookAtNext_66 fl_X6_9 rfl (of_decide_eq_true g11) g13 ?_
    refine V_aload_n (pc := 69) (i := 0) dX6_lookAtNext_69 rfl rfl ?_
    refine V_getI (pc := 70) (ci := 6) (k := 4) dX6_lookAtNext_70 fl_X6_25 rfl (of_decide_eq_true g11) ?_
    obtain ⟨g14, e⟩ := gd_some e
    obtain ⟨g15, e⟩ := gd_some e
    refine V_bald (pc := 73) dX6_lookAtNext_73 (of_decide_eq_true g14) (ix_in g15) ?_
    refine V_bipush (pc := 74) (v := (97 : Int32)) dX6_lookAtNext_74 (by decide) ?_
    refine V_icmp_lt (pc := 76) (tgt := 106) dX6_lookAtNext_76 (by decide) (fun c21 => ?_) (fun c21 => ?_)
    · rw [if_pos c21] at e
      cases e
      exact V_pick [0] rfl (kE106 _ rfl)
    · rw [if_neg c21] at e
      refine V_pick [0] rfl ?_
      refine V_aload_n (pc := 79) (i := 0) dX6_lookAtNext_79 rfl rfl ?_
      obtain ⟨q16, g17, e⟩ := ob_some e
      refine V_getR (pc := 80) (ci := 6) (k := 0) (b := q16) dX6_lookAtNext_80 fl_X6_9 rfl (of_decide_eq_true g11) g17 ?_
      refine V_aload_n (pc := 83) (i := 0) dX6_lookAtNext_83 rfl rfl ?_
      refine V_getI (pc := 84) (ci := 6) (k := 4) dX6_lookAtNext_84 fl_X6_25 rfl (of_decide_eq_true g11) ?_
      obtain ⟨g18, e⟩ := gd_some e
      obtain ⟨g19, e⟩ := gd_some e
      refine V_bald (pc := 87) dX6_lookAtNext_87 (of_decide_eq_true g18) (ix_in g19) ?_
      refine V_bipush (pc := 88) (v := (122 : Int32)) dX6_lookAtNext_88 (by decide) ?_
      refine V_icmp_gt (pc := 90) (tgt := 106) dX6_lookAtNext_90 (by decide) (fun c20 => ?_) (fun c20 => ?_)
      · rw [if_pos c20] at e
        cases e
        exact V_pick [0] rfl (kE106 _ rfl)
      · rw [if_neg c20] at e
        refine V_pick [0] rfl ?_
        refine V_aload_n (pc := 93) (i := 0) dX6_lookAtNext_93 rfl rfl ?_
        refine V_dup (pc := 94) dX6_lookAtNext_94 rfl ?_
        refine V_getI (pc := 95) (ci := 6) (k := 4) dX6_lookAtNext_95 fl_X6_25 rfl (of_decide_eq_true g11) ?_
        refine V_iconst (pc := 98) (v := (1 : Int32)) dX6_lookAtNext_98 (by decide) ?_
        refine V_iadd (pc := 99) dX6_lookAtNext_99 ?_
        refine V_putI (pc := 100) (ci := 6) (k := 4) dX6_lookAtNext_100 fp_X6_25 rfl (of_decide_eq_true g11) ?_
        refine V_goto (pc := 103) (tgt := 54) dX6_lookAtNext_103 (by decide) ?_
        cases e
        exact V_pick [0] rfl (kI _ rfl)
set_option maxRecDepth 100000 in
def F_X6_lookAtNext_l123 (v0 : Nat) (h : Hp) : Option (Hp ⊕ Hp) :=
  gd (decide (kd h v0 = 6)) <| (if (zI h v0 1) ≤ (zI h v0 4) then some (.inr h) else ob (zR h v0 0) fun q26 => gd (decide (kd h q26 = 12)) <| gd (ix (zI h v0 4) (zl h q26)) <| (if (zI h q26 (zI h v0 4).toNatClampNeg) < (48 : Int32) then some (.inr h) else ob (zR h v0 0) fun q30 => gd (decide (kd h q30 = 12)) <| gd (ix (zI h v0 4) (zl h q30)) <| (if (57 : Int32) < (zI h q30 (zI h v0 4).toNatClampNeg) then some (.inr h) else some (.inl (setI h v0 4 ((zI h v0 4) + (1 : Int32)))))))
set_option maxHeartbeats 4000000 in
set_option maxRecDepth 100000 in
theorem r_X6_lookAtNext_l123 (v0 : Nat) (h : Hp) {x : Cx} {o : (Hp ⊕ Hp)} (e : F_X6_lookAtNext_l123 v0 h = some o) (kI : ∀ z, o = .inl z → V M_X6_lookAtNext x 1 123 [(0, .ref v0)] [] z 0 0) (kE175 : ∀ z : Hp, o = .inr z → V M_X6_lookAtNext x 1 175 [(0, .ref v0)] [] z 0 0) : V M_X6_lookAtNext x 1 123 [(0, .ref v0)] [] h 0 0 := by
  unfold F_X6_lookAtNext_l123 at e
  refine V_aload_n (pc := 123) (i := 0) dX6_lookAtNext_123 rfl rfl ?_
  obtain ⟨g25, e⟩ := gd_some e
  refine V_getI (pc := 124) (ci := 6) (k := 4) dX6_lookAtNext_124 fl_X6_25 rfl (of_decide_eq_true g25) ?_
  refine V_aload_n (pc := 127) (i := 0) dX6_lookAtNext_127 rfl rfl ?_
  refine V_getI (pc := 128) (ci := 6) (k := 1) dX6_lookAtNext_128 fl_X6_15 rfl (of_decide_eq_true g25) ?_
  refine V_icmp_ge (pc := 131) (tgt := 175) dX6_lookAtNext_131 (by decide) (fun c36 => ?_) (fun c36 => ?_)
  · rw [if_pos c36] at e
    cases e
    exact V_pick [0] rfl (kE175 _ rfl)
  · rw [if_neg c36] at e
    refine V_pick [0] rfl ?_
    refine V_aload_n (pc := 134) (i := 0) dX6_lookAtNext_134 rfl rfl ?_
    obtain ⟨q26, g27, e⟩ := ob_some e
    refine V_getR (pc := 135) (ci := 6) (k := 0) (b := q26) dX6_lookAtNext_135 fl_X6_9 rfl (of_decide_eq_true g25) g27 ?_
    refine V_aload_n (pc := 138) (i := 0) dX6_lookAtNext_138 rfl rfl ?_
    refine V_getI (pc := 139) (ci := 6) (k := 4) dX6_lookAtNext_139 fl_X6_25 rfl (of_decide_eq_true g25) ?_
    obtain ⟨g28, e⟩ := gd_some e
    obtain ⟨g29, e⟩ := gd_some e
    refine V_bald (pc := 142) dX6_lookAtNext_142 (of_decide_eq_true g28) (ix_in g29) ?_
    refine V_bipush (pc := 143) (v := (48 : Int32)) dX6_lookAtNext_143 (by decide) ?_
    refine V_icmp_lt (pc := 145) (tgt := 175) dX6_lookAtNext_145 (by decide) (fun c35 => ?_) (fun c35 => ?_)
    · rw [if_pos c35] at e
      cases e
      exact V_pick [0] rfl (kE175 _ rfl)
    · rw [if_neg c35] at e
      refine V_pick [0] rfl ?_
      refine V_aload_n (pc := 148) (i := 0) dX6_lookAtNext_148 rfl rfl ?_
      obtain ⟨q30, g31, e⟩ := ob_some e
      refine V_getR (pc := 149) (ci := 6) (k := 0) (b := q30) dX6_lookAtNext_149 fl_X6_9 rfl (of_decide_eq_true g25) g31 ?_
      refine V_aload_n (pc := 152) (i := 0) dX6_lookAtNext_152 rfl rfl ?_
      refine V_getI (pc := 153) (ci := 6) (k := 4) dX6_lookAtNext_153 fl_X6_25 rfl (of_decide_eq_true g25) ?_
      obtain ⟨g32, e⟩ := gd_some e
      obtain ⟨g33, e⟩ := gd_some e
      refine V_bald (pc := 156) dX6_lookAtNext_156 (of_decide_eq_true g32) (ix_in g33) ?_
      refine V_bipush (pc := 157) (v := (57 : Int32)) dX6_lookAtNext_157 (by decide) ?_
      refine V_icmp_gt (pc := 159) (tgt := 175) dX6_lookAtNext_159 (by decide) (fun c34 => ?_) (fun c34 => ?_)
      · rw [if_pos c34] at e
        cases e
        exact V_pick [0] rfl (kE175 _ rfl)
      · rw [if_neg c34] at e
        refine V_pick [0] rfl ?_
        refine V_aload_n (pc := 162) (i := 0) dX6_lookAtNext_162 rfl rfl ?_
        refine V_dup (pc := 163) dX6_lookAtNext_163 rfl ?_
        refine V_getI (pc := 164) (ci := 6) (k := 4) dX6_lookAtNext_164 fl_X6_25 rfl (of_decide_eq_true g25) ?_
        refine V_iconst (pc := 167) (v := (1 : Int32)) dX6_lookAtNext_167 (by decide) ?_
        refine V_iadd (pc := 168) dX6_lookAtNext_168 ?_
        refine V_putI (pc := 169) (ci := 6) (k := 4) dX6_lookAtNext_169 fp_X6_25 rfl (of_decide_eq_true g25) ?_
        refine V_goto (pc := 172) (tgt := 123) dX6_lookAtNext_172 (by decide) ?_
        cases e
        exact V_pick [0] rfl (kI _ rfl)
set_option maxRecDepth 100000 in
def F_X6_lookAtNext_b209 (v0 : Nat) (t0 : Nat) (t1 : Int32) (h : Hp) : Option (Unit × Hp) :=
  gd (decide (kd h t0 = 6)) <| gd (decide (kd (setI h t0 2 t1) v0 = 6)) <| some ((), setI (setI h t0 2 t1) v0 4 (jmin (zI (setI h t0 2 t1) v0 1) ((zI (setI h t0 2 t1) v0 3) + (1 : Int32))))
set_option maxHeartbeats 4000000 in
set_option maxRecDepth 100000 in
theorem r_X6_lookAtNext_b209 (v0 : Nat) (t0 : Nat) (t1 : Int32) (h : Hp) {x : Cx} {r : Unit} {hz : Hp} (e : F_X6_lookAtNext_b209 v0 t0 t1 h = some (r, hz)) (hF : Fin9 M_X6_lookAtNext x none none hz) : V M_X6_lookAtNext x 1 209 [(0, .ref v0)] [.int t1, .ref t0] h 0 0 := by
  unfold F_X6_lookAtNext_b209 at e
  obtain ⟨g39, e⟩ := gd_some e
  refine V_putI (pc := 209) (ci := 6) (k := 2) dX6_lookAtNext_209 fp_X6_19 rfl (of_decide_eq_true g39) ?_
  refine V_aload_n (pc := 212) (i := 0) dX6_lookAtNext_212 rfl rfl ?_
  refine V_aload_n (pc := 213) (i := 0) dX6_lookAtNext_213 rfl rfl ?_
  obtain ⟨g40, e⟩ := gd_some e
  refine V_getI (pc := 214) (ci := 6) (k := 1) dX6_lookAtNext_214 fl_X6_15 rfl (of_decide_eq_true g40) ?_
  refine V_aload_n (pc := 217) (i := 0) dX6_lookAtNext_217 rfl rfl ?_
  refine V_getI (pc := 218) (ci := 6) (k := 3) dX6_lookAtNext_218 fl_X6_22 rfl (of_decide_eq_true g40) ?_
  refine V_iconst (pc := 221) (v := (1 : Int32)) dX6_lookAtNext_221 (by decide) ?_
  refine V_iadd (pc := 222) dX6_lookAtNext_222 ?_
  refine V_min (pc := 223) dX6_lookAtNext_223 wm_X6_37 (by decide) (Nat.le_of_ble_eq_true rfl) ?_
  refine V_putI (pc := 226) (ci := 6) (k := 4) dX6_lookAtNext_226 fp_X6_25 rfl (of_decide_eq_true g40) ?_
  cases e
  exact V_vret (pc := 229) dX6_lookAtNext_229 hF
set_option maxRecDepth 100000 in
def F_X6_lookAtNext_b175 (v0 : Nat) (h : Hp) : Option (Unit × Hp) :=
  gd (decide (kd h v0 = 6)) <| (if (zI h v0 4) ≤ (zI h v0 3) then (if (zI h v0 1) ≤ (zI h v0 3) then F_X6_lookAtNext_b209 v0 v0 (0 : Int32) h else F_X6_lookAtNext_b209 v0 v0 (3 : Int32) h) else some ((), setI h v0 2 (2 : Int32)))
set_option maxHeartbeats 4000000 in
set_option maxRecDepth 100000 in
theorem r_X6_lookAtNext_b175 (v0 : Nat) (h : Hp) {x : Cx} {r : Unit} {hz : Hp} (e : F_X6_lookAtNext_b175 v0 h = some (r, hz)) (hF : Fin9 M_X6_lookAtNext x none none hz) : V M_X6_lookAtNext x 1 175 [(0, .ref v0)] [] h 0 0 := by
  unfold F_X6_lookAtNext_b175 at e
  refine V_aload_n (pc := 175) (i := 0) dX6_lookAtNext_175 rfl rfl ?_
  obtain ⟨g38, e⟩ := gd_some e
  refine V_getI (pc := 176) (ci := 6) (k := 4) dX6_lookAtNext_176 fl_X6_25 rfl (of_decide_eq_true g38) ?_
  refine V_aload_n (pc := 179) (i := 0) dX6_lookAtNext_179 rfl rfl ?_
  refine V_getI (pc := 180) (ci := 6) (k := 3) dX6_lookAtNext_180 fl_X6_22 rfl (of_decide_eq_true g38) ?_
  refine V_icmp_le (pc := 183) (tgt := 192) dX6_lookAtNext_183 (by decide) (fun c42 => ?_) (fun c42 => ?_)
  · rw [if_pos c42] at e
    refine V_pick [0] rfl ?_
    refine V_aload_n (pc := 192) (i := 0) dX6_lookAtNext_192 rfl rfl ?_
    refine V_aload_n (pc := 193) (i := 0) dX6_lookAtNext_193 rfl rfl ?_
    refine V_getI (pc := 194) (ci := 6) (k := 3) dX6_lookAtNext_194 fl_X6_22 rfl (of_decide_eq_true g38) ?_
    refine V_aload_n (pc := 197) (i := 0) dX6_lookAtNext_197 rfl rfl ?_
    refine V_getI (pc := 198) (ci := 6) (k := 1) dX6_lookAtNext_198 fl_X6_15 rfl (of_decide_eq_true g38) ?_
    refine V_icmp_ge (pc := 201) (tgt := 208) dX6_lookAtNext_201 (by decide) (fun c41 => ?_) (fun c41 => ?_)
    · rw [if_pos c41] at e
      refine V_pick [0] rfl ?_
      refine V_iconst (pc := 208) (v := (0 : Int32)) dX6_lookAtNext_208 (by decide) ?_
      exact V_pick [0] rfl (r_X6_lookAtNext_b209 v0 v0 (0 : Int32) h e hF)
    · rw [if_neg c41] at e
      refine V_pick [0] rfl ?_
      refine V_iconst (pc := 204) (v := (3 : Int32)) dX6_lookAtNext_204 (by decide) ?_
      refine V_goto (pc := 205) (tgt := 209) dX6_lookAtNext_205 (by decide) ?_
      exact V_pick [0] rfl (r_X6_lookAtNext_b209 v0 v0 (3 : Int32) h e hF)
  · rw [if_neg c42] at e
    refine V_pick [0] rfl ?_
    refine V_aload_n (pc := 186) (i := 0) dX6_lookAtNext_186 rfl rfl ?_
    refine V_iconst (pc := 187) (v := (2 : Int32)) dX6_lookAtNext_187 (by decide) ?_
    refine V_putI (pc := 188) (ci := 6) (k := 2) dX6_lookAtNext_188 fp_X6_19 rfl (of_decide_eq_true g38) ?_
    cases e
    exact V_vret (pc := 191) dX6_lookAtNext_191 hF
set_option maxRecDepth 100000 in
def F_X6_lookAtNext_b106 (v0 : Nat) (h : Hp) : Option (Unit × Hp) :=
  gd (decide (kd h v0 = 6)) <| (if (zI h v0 4) ≤ (zI h v0 3) then ob (iter (fun z : Hp => F_X6_lookAtNext_l123 v0 z) FU h) (fun h37 => F_X6_lookAtNext_b175 v0 h37) else some ((), setI h v0 2 (1 : Int32)))
set_option maxHeartbeats 4000000 in
set_option maxRecDepth 100000 in
theorem r_X6_lookAtNext_b106 (v0 : Nat) (h : Hp) {x : Cx} {r : Unit} {hz : Hp} (e : F_X6_lookAtNext_b106 v0 h = some (r, hz)) (hF : Fin9 M_X6_lookAtNext x none none hz) : V M_X6_lookAtNext x 1 106 [(0, .ref v0)] [] h 0 0 := by
  unfold F_X6_lookAtNext_b106 at e
  refine V_aload_n (pc := 106) (i := 0) dX6_lookAtNext_106 rfl rfl ?_
  obtain ⟨g24, e⟩ := gd_some e
  refine V_getI (pc := 107) (ci := 6) (k := 4) dX6_lookAtNext_107 fl_X6_25 rfl (of_decide_eq_true g24) ?_
  refine V_aload_n (pc := 110) (i := 0) dX6_lookAtNext_110 rfl rfl ?_
  refine V_getI (pc := 111) (ci := 6) (k := 3) dX6_lookAtNext_111 fl_X6_22 rfl (of_decide_eq_true g24) ?_
  refine V_icmp_le (pc := 114) (tgt := 123) dX6_lookAtNext_114 (by decide) (fun c45 => ?_) (fun c45 => ?_)
  · rw [if_pos c45] at e
    refine V_pick [0] rfl ?_
    obtain ⟨y43, g44, e⟩ := ob_some e
    refine iter_V (P := fun z : Hp => V M_X6_lookAtNext x 1 123 [(0, .ref v0)] [] z 0 0) (E := fun z : Hp => V M_X6_lookAtNext x 1 175 [(0, .ref v0)] [] z 0 0) (fun z o e9 k1 k2 => r_X6_lookAtNext_l123 v0 z e9 (fun z hz9 => k1 z hz9) (fun z hz9 => k2 _ hz9)) _ _ _ g44 ?_
    clear g44
    obtain ⟨h37, rfl⟩ : ∃ q, q = y43 := ⟨_, rfl⟩
    replace e : (F_X6_lookAtNext_b175 v0 h37) = some (r, hz) := e
    show V M_X6_lookAtNext x 1 175 [(0, .ref v0)] [] h37 0 0
    exact V_pick [0] rfl (r_X6_lookAtNext_b175 v0 h37 e hF)
  · rw [if_neg c45] at e
    refine V_pick [0] rfl ?_
    refine V_aload_n (pc := 117) (i := 0) dX6_lookAtNext_117 rfl rfl ?_
    refine V_iconst (pc := 118) (v := (1 : Int32)) dX6_lookAtNext_118 (by decide) ?_
    refine V_putI (pc := 119) (ci := 6) (k := 2) dX6_lookAtNext_119 fp_X6_19 rfl (of_decide_eq_true g24) ?_
    cases e
    exact V_vret (pc := 122) dX6_lookAtNext_122 hF
set_option maxRecDepth 100000 in
def F_X6_lookAtNext_b46 (v0 : Nat) (h : Hp) : Option (Unit × Hp) :=
  gd (decide (kd h v0 = 6)) <| ob (iter (fun z : Hp => F_X6_lookAtNext_l54 v0 z) FU (setI h v0 4 (zI h v0 3))) (fun h23 => F_X6_lookAtNext_b106 v0 h23)
set_option maxHeartbeats 4000000 in
set_option maxRecDepth 100000 in
theorem r_X6_lookAtNext_b46 (v0 : Nat) (h : Hp) {x : Cx} {r : Unit} {hz : Hp} (e : F_X6_lookAtNext_b46 v0 h = some (r, hz)) (hF : Fin9 M_X6_lookAtNext x none none hz) : V M_X6_lookAtNext x 1 46 [(0, .ref v0)] [] h 0 0 := by
  unfold F_X6_lookAtNext_b46 at e
  refine V_aload_n (pc := 46) (i := 0) dX6_lookAtNext_46 rfl rfl ?_
  refine V_aload_n (pc := 47) (i := 0) dX6_lookAtNext_47 rfl rfl ?_
  obtain ⟨g10, e⟩ := gd_some e
  refine V_getI (pc := 48) (ci := 6) (k := 3) dX6_lookAtNext_48 fl_X6_22 rfl (of_decide_eq_true g10) ?_
  refine V_putI (pc := 51) (ci := 6) (k := 4) dX6_lookAtNext_51 fp_X6_25 rfl (of_decide_eq_true g10) ?_
  refine V_pick [0] rfl ?_
  obtain ⟨y46, g47, e⟩ := ob_some e
  refine iter_V (P := fun z : Hp => V M_X6_lookAtNext x 1 54 [(0, .ref v0)] [] z 0 0) (E := fun z : Hp => V M_X6_lookAtNext x 1 106 [(0, .ref v0)] [] z 0 0) (fun z o e9 k1 k2 => r_X6_lookAtNext_l54 v0 z e9 (fun z hz9 => k1 z hz9) (fun z hz9 => k2 _ hz9)) _ _ _ g47 ?_
  clear g47
  obtain ⟨h23, rfl⟩ : ∃ q, q = y46 := ⟨_, rfl⟩
  replace e : (F_X6_lookAtNext_b106 v0 h23) = some (r, hz) := e
  show V M_X6_lookAtNext x 1 106 [(0, .ref v0)] [] h23 0 0
  exact V_pick [0] rfl (r_X6_lookAtNext_b106 v0 h23 e hF)
set_option maxRecDepth 100000 in
def F_X6_lookAtNext_b0 (v0 : Nat) (h : Hp) : Option (Unit × Hp) :=
  gd (decide (kd h v0 = 6)) <| ob (iter (fun z : Hp => F_X6_lookAtNext_l8 v0 z) FU (setI h v0 3 (zI h v0 4))) (fun h9 => F_X6_lookAtNext_b46 v0 h9)
set_option maxHeartbeats 4000000 in
set_option maxRecDepth 100000 in
theorem r_X6_lookAtNext_b0 (v0 : Nat) (h : Hp) {x : Cx} {r : Unit} {hz : Hp} (e : F_X6_lookAtNext_b0 v0 h = some (r, hz)) (hF : Fin9 M_X6_lookAtNext x none none hz) : V M_X6_lookAtNext x 1 0 [(0, .ref v0)] [] h 0 0 := by
  unfold F_X6_lookAtNext_b0 at e
  refine V_aload_n (pc := 0) (i := 0) dX6_lookAtNext_0 rfl rfl ?_
  refine V_aload_n (pc := 1) (i := 0) dX6_lookAtNext_1 rfl rfl ?_
  obtain ⟨g1, e⟩ := gd_some e
  refine V_getI (pc := 2) (ci := 6) (k := 4) dX6_lookAtNext_2 fl_X6_25 rfl (of_decide_eq_true g1) ?_
  refine V_putI (pc := 5) (ci := 6) (k := 3) dX6_lookAtNext_5 fp_X6_22 rfl (of_decide_eq_true g1) ?_
  refine V_pick [0] rfl ?_
  obtain ⟨y48, g49, e⟩ := ob_some e
  refine iter_V (P := fun z : Hp => V M_X6_lookAtNext x 1 8 [(0, .ref v0)] [] z 0 0) (E := fun z : Hp => V M_X6_lookAtNext x 1 46 [(0, .ref v0)] [] z 0 0) (fun z o e9 k1 k2 => r_X6_lookAtNext_l8 v0 z e9 (fun z hz9 => k1 z hz9) (fun z hz9 => k2 _ hz9)) _ _ _ g49 ?_
  clear g49
  obtain ⟨h9, rfl⟩ : ∃ q, q = y48 := ⟨_, rfl⟩
  replace e : (F_X6_lookAtNext_b46 v0 h9) = some (r, hz) := e
  show V M_X6_lookAtNext x 1 46 [(0, .ref v0)] [] h9 0 0
  exact V_pick [0] rfl (r_X6_lookAtNext_b46 v0 h9 e hF)
def F_X6_lookAtNext (v0 : Nat) (h : Hp) : Option (Unit × Hp) := F_X6_lookAtNext_b0 v0 h
theorem c_X6_lookAtNext {l : Launch} (v0 : Nat) (h : Hp) {r : Unit} {hz : Hp} (e : F_X6_lookAtNext v0 h = some (r, hz)) : Ct l yX6_lookAtNext M_X6_lookAtNext none 1 [.ref v0] h 0 0 none hz :=
  Ct_of rfl rfl (fun q => by cases q) (Nat.le_of_ble_eq_true rfl) (fun x _ hF => V_pick [0] rfl (r_X6_lookAtNext_b0 v0 h e hF))
theorem dX6_hasMore_0 : decode cX6_hasMore 0 = .ok (.aload_n 0, 1) := by decide +kernel
theorem dX6_hasMore_1 : decode cX6_hasMore 1 = .ok (.getfield 19, 3) := by decide +kernel
theorem dX6_hasMore_4 : decode cX6_hasMore 4 = .ok (.ifCond .eq 7, 3) := by decide +kernel
theorem dX6_hasMore_7 : decode cX6_hasMore 7 = .ok (.iconst 1, 1) := by decide +kernel
theorem dX6_hasMore_8 : decode cX6_hasMore 8 = .ok (.goto 4, 3) := by decide +kernel
theorem dX6_hasMore_11 : decode cX6_hasMore 11 = .ok (.iconst 0, 1) := by decide +kernel
theorem dX6_hasMore_12 : decode cX6_hasMore 12 = .ok (.ireturn, 1) := by decide +kernel
set_option maxRecDepth 100000 in
def F_X6_hasMore_b12 (t0 : Int32) (h : Hp) : Option Int32 :=
  gd (decide (t0 = 0 ∨ t0 = 1)) <| some t0
set_option maxHeartbeats 4000000 in
set_option maxRecDepth 100000 in
theorem r_X6_hasMore_b12 (t0 : Int32) (h : Hp) {x : Cx} {r : Int32} (e : F_X6_hasMore_b12 t0 h = some r) (hF : Fin9 M_X6_hasMore x (some .boolean) (some (.int r)) h) : V M_X6_hasMore x 0 12 [] [.int t0] h 0 0 := by
  unfold F_X6_hasMore_b12 at e
  obtain ⟨g2, e⟩ := gd_some e
  cases e
  exact V_zret (pc := 12) dX6_hasMore_12 (z01 (of_decide_eq_true g2)) hF
set_option maxRecDepth 100000 in
def F_X6_hasMore_b0 (v0 : Nat) (h : Hp) : Option Int32 :=
  gd (decide (kd h v0 = 6)) <| (if (zI h v0 2) = 0 then F_X6_hasMore_b12 (0 : Int32) h else F_X6_hasMore_b12 (1 : Int32) h)
set_option maxHeartbeats 4000000 in
set_option maxRecDepth 100000 in
theorem r_X6_hasMore_b0 (v0 : Nat) (h : Hp) {x : Cx} {r : Int32} (e : F_X6_hasMore_b0 v0 h = some r) (hF : Fin9 M_X6_hasMore x (some .boolean) (some (.int r)) h) : V M_X6_hasMore x 0 0 [(0, .ref v0)] [] h 0 0 := by
  unfold F_X6_hasMore_b0 at e
  refine V_aload_n (pc := 0) (i := 0) dX6_hasMore_0 rfl rfl ?_
  obtain ⟨g1, e⟩ := gd_some e
  refine V_getI (pc := 1) (ci := 6) (k := 2) dX6_hasMore_1 fl_X6_19 rfl (of_decide_eq_true g1) ?_
  refine V_if_eq (pc := 4) (tgt := 11) dX6_hasMore_4 (by decide) (fun c3 => ?_) (fun c3 => ?_)
  · rw [if_pos c3] at e
    refine V_pick [] rfl ?_
    refine V_iconst (pc := 11) (v := (0 : Int32)) dX6_hasMore_11 (by decide) ?_
    exact V_pick [] rfl (r_X6_hasMore_b12 (0 : Int32) h e hF)
  · rw [if_neg c3] at e
    refine V_pick [] rfl ?_
    refine V_iconst (pc := 7) (v := (1 : Int32)) dX6_hasMore_7 (by decide) ?_
    refine V_goto (pc := 8) (tgt := 12) dX6_hasMore_8 (by decide) ?_
    exact V_pick [] rfl (r_X6_hasMore_b12 (1 : Int32) h e hF)
def F_X6_hasMore (v0 : Nat) (h : Hp) : Option Int32 := F_X6_hasMore_b0 v0 h
theorem c_X6_hasMore {l : Launch} (v0 : Nat) (h : Hp) {r : Int32} (e : F_X6_hasMore v0 h = some r) : Ct l yX6_hasMore M_X6_hasMore (some .boolean) 0 [.ref v0] h 0 0 (some (.int r)) h :=
  Ct_of rfl rfl (fun q => by cases q) (Nat.le_of_ble_eq_true rfl) (fun x _ hF => V_pick [0] rfl (r_X6_hasMore_b0 v0 h e hF))
theorem dX6_isNumber_0 : decode cX6_isNumber 0 = .ok (.aload_n 0, 1) := by decide +kernel
theorem dX6_isNumber_1 : decode cX6_isNumber 1 = .ok (.getfield 19, 3) := by decide +kernel
theorem dX6_isNumber_4 : decode cX6_isNumber 4 = .ok (.iconst 2, 1) := by decide +kernel
theorem dX6_isNumber_5 : decode cX6_isNumber 5 = .ok (.if_icmp .ne 7, 3) := by decide +kernel
theorem dX6_isNumber_8 : decode cX6_isNumber 8 = .ok (.iconst 1, 1) := by decide +kernel
theorem dX6_isNumber_9 : decode cX6_isNumber 9 = .ok (.goto 4, 3) := by decide +kernel
theorem dX6_isNumber_12 : decode cX6_isNumber 12 = .ok (.iconst 0, 1) := by decide +kernel
theorem dX6_isNumber_13 : decode cX6_isNumber 13 = .ok (.ireturn, 1) := by decide +kernel
set_option maxRecDepth 100000 in
def F_X6_isNumber_b13 (t0 : Int32) (h : Hp) : Option Int32 :=
  gd (decide (t0 = 0 ∨ t0 = 1)) <| some t0
set_option maxHeartbeats 4000000 in
set_option maxRecDepth 100000 in
theorem r_X6_isNumber_b13 (t0 : Int32) (h : Hp) {x : Cx} {r : Int32} (e : F_X6_isNumber_b13 t0 h = some r) (hF : Fin9 M_X6_isNumber x (some .boolean) (some (.int r)) h) : V M_X6_isNumber x 0 13 [] [.int t0] h 0 0 := by
  unfold F_X6_isNumber_b13 at e
  obtain ⟨g2, e⟩ := gd_some e
  cases e
  exact V_zret (pc := 13) dX6_isNumber_13 (z01 (of_decide_eq_true g2)) hF
set_option maxRecDepth 100000 in
def F_X6_isNumber_b0 (v0 : Nat) (h : Hp) : Option Int32 :=
  gd (decide (kd h v0 = 6)) <| (if (zI h v0 2) = (2 : Int32) then F_X6_isNumber_b13 (1 : Int32) h else F_X6_isNumber_b13 (0 : Int32) h)
set_option maxHeartbeats 4000000 in
set_option maxRecDepth 100000 in
theorem r_X6_isNumber_b0 (v0 : Nat) (h : Hp) {x : Cx} {r : Int32} (e : F_X6_isNumber_b0 v0 h = some r) (hF : Fin9 M_X6_isNumber x (some .boolean) (some (.int r)) h) : V M_X6_isNumber x 0 0 [(0, .ref v0)] [] h 0 0 := by
  unfold F_X6_isNumber_b0 at e
  refine V_aload_n (pc := 0) (i := 0) dX6_isNumber_0 rfl rfl ?_
  obtain ⟨g1, e⟩ := gd_some e
  refine V_getI (pc := 1) (ci := 6) (k := 2) dX6_isNumber_1 fl_X6_19 rfl (of_decide_eq_true g1) ?_
  refine V_iconst (pc := 4) (v := (2 : Int32)) dX6_isNumber_4 (by decide) ?_
  refine V_icmp_ne (pc := 5) (tgt := 12) dX6_isNumber_5 (by decide) (fun c3 => ?_) (fun c3 => ?_)
  · rw [if_neg c3] at e
    refine V_pick [] rfl ?_
    refine V_iconst (pc := 12) (v := (0 : Int32)) dX6_isNumber_12 (by decide) ?_
    exact V_pick [] rfl (r_X6_isNumber_b13 (0 : Int32) h e hF)
  · rw [if_pos c3] at e
    refine V_pick [] rfl ?_
    refine V_iconst (pc := 8) (v := (1 : Int32)) dX6_isNumber_8 (by decide) ?_
    refine V_goto (pc := 9) (tgt := 13) dX6_isNumber_9 (by decide) ?_
    exact V_pick [] rfl (r_X6_isNumber_b13 (1 : Int32) h e hF)
def F_X6_isNumber (v0 : Nat) (h : Hp) : Option Int32 := F_X6_isNumber_b0 v0 h
theorem c_X6_isNumber {l : Launch} (v0 : Nat) (h : Hp) {r : Int32} (e : F_X6_isNumber v0 h = some r) : Ct l yX6_isNumber M_X6_isNumber (some .boolean) 0 [.ref v0] h 0 0 (some (.int r)) h :=
  Ct_of rfl rfl (fun q => by cases q) (Nat.le_of_ble_eq_true rfl) (fun x _ hF => V_pick [0] rfl (r_X6_isNumber_b0 v0 h e hF))
theorem dX6_isSign_0 : decode cX6_isSign 0 = .ok (.aload_n 0, 1) := by decide +kernel
theorem dX6_isSign_1 : decode cX6_isSign 1 = .ok (.getfield 19, 3) := by decide +kernel
theorem dX6_isSign_4 : decode cX6_isSign 4 = .ok (.iconst 3, 1) := by decide +kernel
theorem dX6_isSign_5 : decode cX6_isSign 5 = .ok (.if_icmp .ne 20, 3) := by decide +kernel
theorem dX6_isSign_8 : decode cX6_isSign 8 = .ok (.aload_n 0, 1) := by decide +kernel
theorem dX6_isSign_9 : decode cX6_isSign 9 = .ok (.getfield 9, 3) := by decide +kernel
theorem dX6_isSign_12 : decode cX6_isSign 12 = .ok (.aload_n 0, 1) := by decide +kernel
theorem dX6_isSign_13 : decode cX6_isSign 13 = .ok (.getfield 22, 3) := by decide +kernel
theorem dX6_isSign_16 : decode cX6_isSign 16 = .ok (.baload, 1) := by decide +kernel
theorem dX6_isSign_17 : decode cX6_isSign 17 = .ok (.iload_n 1, 1) := by decide +kernel
theorem dX6_isSign_18 : decode cX6_isSign 18 = .ok (.if_icmp .ne 7, 3) := by decide +kernel
theorem dX6_isSign_21 : decode cX6_isSign 21 = .ok (.iconst 1, 1) := by decide +kernel
theorem dX6_isSign_22 : decode cX6_isSign 22 = .ok (.goto 4, 3) := by decide +kernel
theorem dX6_isSign_25 : decode cX6_isSign 25 = .ok (.iconst 0, 1) := by decide +kernel
theorem dX6_isSign_26 : decode cX6_isSign 26 = .ok (.ireturn, 1) := by decide +kernel
set_option maxRecDepth 100000 in
def F_X6_isSign_b26 (t0 : Int32) (h : Hp) : Option Int32 :=
  gd (decide (t0 = 0 ∨ t0 = 1)) <| some t0
set_option maxHeartbeats 4000000 in
set_option maxRecDepth 100000 in
theorem r_X6_isSign_b26 (t0 : Int32) (h : Hp) {x : Cx} {r : Int32} (e : F_X6_isSign_b26 t0 h = some r) (hF : Fin9 M_X6_isSign x (some .boolean) (some (.int r)) h) : V M_X6_isSign x 0 26 [] [.int t0] h 0 0 := by
  unfold F_X6_isSign_b26 at e
  obtain ⟨g2, e⟩ := gd_some e
  cases e
  exact V_zret (pc := 26) dX6_isSign_26 (z01 (of_decide_eq_true g2)) hF
set_option maxRecDepth 100000 in
def F_X6_isSign_b25  (h : Hp) : Option Int32 :=
  F_X6_isSign_b26 (0 : Int32) h
set_option maxHeartbeats 4000000 in
set_option maxRecDepth 100000 in
theorem r_X6_isSign_b25  (h : Hp) {x : Cx} {r : Int32} (e : F_X6_isSign_b25  h = some r) (hF : Fin9 M_X6_isSign x (some .boolean) (some (.int r)) h) : V M_X6_isSign x 0 25 [] [] h 0 0 := by
  unfold F_X6_isSign_b25 at e
  refine V_iconst (pc := 25) (v := (0 : Int32)) dX6_isSign_25 (by decide) ?_
  exact V_pick [] rfl (r_X6_isSign_b26 (0 : Int32) h e hF)
set_option maxRecDepth 100000 in
def F_X6_isSign_b0 (v0 : Nat) (v1 : Int32) (h : Hp) : Option Int32 :=
  gd (decide (kd h v0 = 6)) <| (if (zI h v0 2) = (3 : Int32) then ob (zR h v0 0) fun q3 => gd (decide (kd h q3 = 12)) <| gd (ix (zI h v0 3) (zl h q3)) <| (if (zI h q3 (zI h v0 3).toNatClampNeg) = v1 then F_X6_isSign_b26 (1 : Int32) h else F_X6_isSign_b25 h) else F_X6_isSign_b25 h)
set_option maxHeartbeats 4000000 in
set_option maxRecDepth 100000 in
theorem r_X6_isSign_b0 (v0 : Nat) (v1 : Int32) (h : Hp) {x : Cx} {r : Int32} (e : F_X6_isSign_b0 v0 v1 h = some r) (hF : Fin9 M_X6_isSign x (some .boolean) (some (.int r)) h) : V M_X6_isSign x 0 0 [(0, .ref v0), (1, .int v1)] [] h 0 0 := by
  unfold F_X6_isSign_b0 at e
  refine V_aload_n (pc := 0) (i := 0) dX6_isSign_0 rfl rfl ?_
  obtain ⟨g1, e⟩ := gd_some e
  refine V_getI (pc := 1) (ci := 6) (k := 2) dX6_isSign_1 fl_X6_19 rfl (of_decide_eq_true g1) ?_
  refine V_iconst (pc := 4) (v := (3 : Int32)) dX6_isSign_4 (by decide) ?_
  refine V_icmp_ne (pc := 5) (tgt := 25) dX6_isSign_5 (by decide) (fun c8 => ?_) (fun c8 => ?_)
  · rw [if_neg c8] at e
    exact V_pick [] rfl (r_X6_isSign_b25 h e hF)
  · rw [if_pos c8] at e
    refine V_pick [0, 1] rfl ?_
    refine V_aload_n (pc := 8) (i := 0) dX6_isSign_8 rfl rfl ?_
    obtain ⟨q3, g4, e⟩ := ob_some e
    refine V_getR (pc := 9) (ci := 6) (k := 0) (b := q3) dX6_isSign_9 fl_X6_9 rfl (of_decide_eq_true g1) g4 ?_
    refine V_aload_n (pc := 12) (i := 0) dX6_isSign_12 rfl rfl ?_
    refine V_getI (pc := 13) (ci := 6) (k := 3) dX6_isSign_13 fl_X6_22 rfl (of_decide_eq_true g1) ?_
    obtain ⟨g5, e⟩ := gd_some e
    obtain ⟨g6, e⟩ := gd_some e
    refine V_bald (pc := 16) dX6_isSign_16 (of_decide_eq_true g5) (ix_in g6) ?_
    refine V_iload_n (pc := 17) (i := 1) dX6_isSign_17 rfl rfl ?_
    refine V_icmp_ne (pc := 18) (tgt := 25) dX6_isSign_18 (by decide) (fun c7 => ?_) (fun c7 => ?_)
    · rw [if_neg c7] at e
      exact V_pick [] rfl (r_X6_isSign_b25 h e hF)
    · rw [if_pos c7] at e
      refine V_pick [] rfl ?_
      refine V_iconst (pc := 21) (v := (1 : Int32)) dX6_isSign_21 (by decide) ?_
      refine V_goto (pc := 22) (tgt := 26) dX6_isSign_22 (by decide) ?_
      exact V_pick [] rfl (r_X6_isSign_b26 (1 : Int32) h e hF)
def F_X6_isSign (v0 : Nat) (v1 : Int32) (h : Hp) : Option Int32 := F_X6_isSign_b0 v0 v1 h
theorem c_X6_isSign {l : Launch} (v0 : Nat) (v1 : Int32) (h : Hp) {r : Int32} (e : F_X6_isSign v0 v1 h = some r) : Ct l yX6_isSign M_X6_isSign (some .boolean) 0 [.ref v0, .int v1] h 0 0 (some (.int r)) h :=
  Ct_of rfl rfl (fun q => by cases q) (Nat.le_of_ble_eq_true rfl) (fun x _ hF => V_pick [0, 1] rfl (r_X6_isSign_b0 v0 v1 h e hF))
theorem dX6_isWord_0 : decode cX6_isWord 0 = .ok (.aload_n 0, 1) := by decide +kernel
theorem dX6_isWord_1 : decode cX6_isWord 1 = .ok (.getfield 19, 3) := by decide +kernel
theorem dX6_isWord_4 : decode cX6_isWord 4 = .ok (.iconst 1, 1) := by decide +kernel
theorem dX6_isWord_5 : decode cX6_isWord 5 = .ok (.if_icmp .ne 19, 3) := by decide +kernel
theorem dX6_isWord_8 : decode cX6_isWord 8 = .ok (.aload_n 1, 1) := by decide +kernel
theorem dX6_isWord_9 : decode cX6_isWord 9 = .ok (.invokevirtual 43, 3) := by decide +kernel
theorem dX6_isWord_12 : decode cX6_isWord 12 = .ok (.aload_n 0, 1) := by decide +kernel
theorem dX6_isWord_13 : decode cX6_isWord 13 = .ok (.getfield 25, 3) := by decide +kernel
theorem dX6_isWord_16 : decode cX6_isWord 16 = .ok (.aload_n 0, 1) := by decide +kernel
theorem dX6_isWord_17 : decode cX6_isWord 17 = .ok (.getfield 22, 3) := by decide +kernel
theorem dX6_isWord_20 : decode cX6_isWord 20 = .ok (.isub, 1) := by decide +kernel
theorem dX6_isWord_21 : decode cX6_isWord 21 = .ok (.if_icmp .eq 5, 3) := by decide +kernel
theorem dX6_isWord_24 : decode cX6_isWord 24 = .ok (.iconst 0, 1) := by decide +kernel
theorem dX6_isWord_25 : decode cX6_isWord 25 = .ok (.ireturn, 1) := by decide +kernel
theorem dX6_isWord_26 : decode cX6_isWord 26 = .ok (.iconst 0, 1) := by decide +kernel
theorem dX6_isWord_27 : decode cX6_isWord 27 = .ok (.istore_n 2, 1) := by decide +kernel
theorem dX6_isWord_28 : decode cX6_isWord 28 = .ok (.iload_n 2, 1) := by decide +kernel
theorem dX6_isWord_29 : decode cX6_isWord 29 = .ok (.aload_n 1, 1) := by decide +kernel
theorem dX6_isWord_30 : decode cX6_isWord 30 = .ok (.invokevirtual 43, 3) := by decide +kernel
theorem dX6_isWord_33 : decode cX6_isWord 33 = .ok (.if_icmp .ge 30, 3) := by decide +kernel
theorem dX6_isWord_36 : decode cX6_isWord 36 = .ok (.aload_n 0, 1) := by decide +kernel
theorem dX6_isWord_37 : decode cX6_isWord 37 = .ok (.getfield 9, 3) := by decide +kernel
theorem dX6_isWord_40 : decode cX6_isWord 40 = .ok (.aload_n 0, 1) := by decide +kernel
theorem dX6_isWord_41 : decode cX6_isWord 41 = .ok (.getfield 22, 3) := by decide +kernel
theorem dX6_isWord_44 : decode cX6_isWord 44 = .ok (.iload_n 2, 1) := by decide +kernel
theorem dX6_isWord_45 : decode cX6_isWord 45 = .ok (.iadd, 1) := by decide +kernel
theorem dX6_isWord_46 : decode cX6_isWord 46 = .ok (.baload, 1) := by decide +kernel
theorem dX6_isWord_47 : decode cX6_isWord 47 = .ok (.aload_n 1, 1) := by decide +kernel
theorem dX6_isWord_48 : decode cX6_isWord 48 = .ok (.iload_n 2, 1) := by decide +kernel
theorem dX6_isWord_49 : decode cX6_isWord 49 = .ok (.invokevirtual 48, 3) := by decide +kernel
theorem dX6_isWord_52 : decode cX6_isWord 52 = .ok (.if_icmp .eq 5, 3) := by decide +kernel
theorem dX6_isWord_55 : decode cX6_isWord 55 = .ok (.iconst 0, 1) := by decide +kernel
theorem dX6_isWord_56 : decode cX6_isWord 56 = .ok (.ireturn, 1) := by decide +kernel
theorem dX6_isWord_57 : decode cX6_isWord 57 = .ok (.iinc 2 1, 3) := by decide +kernel
theorem dX6_isWord_60 : decode cX6_isWord 60 = .ok (.goto (-32), 3) := by decide +kernel
theorem dX6_isWord_63 : decode cX6_isWord 63 = .ok (.iconst 1, 1) := by decide +kernel
theorem dX6_isWord_64 : decode cX6_isWord 64 = .ok (.ireturn, 1) := by decide +kernel
set_option maxRecDepth 100000 in
def F_X6_isWord_b24  (h : Hp) : Option Int32 :=
  some (0 : Int32)
set_option maxHeartbeats 4000000 in
set_option maxRecDepth 100000 in
theorem r_X6_isWord_b24  (h : Hp) {x : Cx} {r : Int32} (e : F_X6_isWord_b24  h = some r) (hF : Fin9 M_X6_isWord x (some .boolean) (some (.int r)) h) : V M_X6_isWord x 4 24 [] [] h 0 0 := by
  unfold F_X6_isWord_b24 at e
  refine V_iconst (pc := 24) (v := (0 : Int32)) dX6_isWord_24 (by decide) ?_
  cases e
  exact V_zret (pc := 25) dX6_isWord_25 rfl hF
set_option maxRecDepth 100000 in
def F_X6_isWord_l28 (v0 : Nat) (v1 : UInt32) (v2 : Int32) (h : Hp) : Option (Int32 ⊕ (Unit ⊕ Unit)) :=
  gd (decide ((v1).toNat < 64)) <| (if (slen v1) ≤ v2 then some (.inr (.inl ())) else gd (decide (kd h v0 = 6)) <| ob (zR h v0 0) fun q5 => gd (decide (kd h q5 = 12)) <| gd (ix ((zI h v0 3) + v2) (zl h q5)) <| gd (decide ((v1).toNat < 64)) <| gd (ix v2 (sB.getD (v1).toNat []).length) <| (if (zI h q5 ((zI h v0 3) + v2).toNatClampNeg) = (schar v1 v2) then some (.inl (v2 + (1 : Int32))) else some (.inr (.inr ()))))
set_option maxHeartbeats 4000000 in
set_option maxRecDepth 100000 in
theorem r_X6_isWord_l28 (v0 : Nat) (v1 : UInt32) (v2 : Int32) (h : Hp) {x : Cx} {o : (Int32 ⊕ (Unit ⊕ Unit))} (e : F_X6_isWord_l28 v0 v1 v2 h = some o) (kI : ∀ z, o = .inl z → V M_X6_isWord x 4 28 [(0, .ref v0), (1, .float v1), (2, .int z)] [] h 0 0) (kE63 : ∀ z : Unit, o = .inr (.inl z) → V M_X6_isWord x 4 63 [] [] h 0 0) (kE55 : ∀ z : Unit, o = .inr (.inr z) → V M_X6_isWord x 4 55 [] [] h 0 0) : V M_X6_isWord x 4 28 [(0, .ref v0), (1, .float v1), (2, .int v2)] [] h 0 0 := by
  unfold F_X6_isWord_l28 at e
  refine V_iload_n (pc := 28) (i := 2) dX6_isWord_28 rfl rfl ?_
  refine V_saload_n (pc := 29) (i := 1) dX6_isWord_29 rfl rfl ?_
  obtain ⟨g3, e⟩ := gd_some e
  refine V_slen (pc := 30) dX6_isWord_30 ms_X6_43 (of_decide_eq_true g3) (by decide) (Nat.le_of_ble_eq_true rfl) ?_
  refine V_icmp_ge (pc := 33) (tgt := 63) dX6_isWord_33 (by decide) (fun c12 => ?_) (fun c12 => ?_)
  · rw [if_pos c12] at e
    cases e
    exact V_pick [] rfl (kE63 _ rfl)
  · rw [if_neg c12] at e
    refine V_pick [0, 1, 2] rfl ?_
    refine V_aload_n (pc := 36) (i := 0) dX6_isWord_36 rfl rfl ?_
    obtain ⟨g4, e⟩ := gd_some e
    obtain ⟨q5, g6, e⟩ := ob_some e
    refine V_getR (pc := 37) (ci := 6) (k := 0) (b := q5) dX6_isWord_37 fl_X6_9 rfl (of_decide_eq_true g4) g6 ?_
    refine V_aload_n (pc := 40) (i := 0) dX6_isWord_40 rfl rfl ?_
    refine V_getI (pc := 41) (ci := 6) (k := 3) dX6_isWord_41 fl_X6_22 rfl (of_decide_eq_true g4) ?_
    refine V_iload_n (pc := 44) (i := 2) dX6_isWord_44 rfl rfl ?_
    refine V_iadd (pc := 45) dX6_isWord_45 ?_
    obtain ⟨g7, e⟩ := gd_some e
    obtain ⟨g8, e⟩ := gd_some e
    refine V_bald (pc := 46) dX6_isWord_46 (of_decide_eq_true g7) (ix_in g8) ?_
    refine V_saload_n (pc := 47) (i := 1) dX6_isWord_47 rfl rfl ?_
    refine V_iload_n (pc := 48) (i := 2) dX6_isWord_48 rfl rfl ?_
    obtain ⟨g9, e⟩ := gd_some e
    obtain ⟨g10, e⟩ := gd_some e
    refine V_schar (pc := 49) dX6_isWord_49 ms_X6_48 (of_decide_eq_true g9) (ix_in g10) (by decide) (Nat.le_of_ble_eq_true rfl) ?_
    refine V_icmp_eq (pc := 52) (tgt := 57) dX6_isWord_52 (by decide) (fun c11 => ?_) (fun c11 => ?_)
    · rw [if_pos c11] at e
      refine V_pick [0, 1, 2] rfl ?_
      refine V_iinc (pc := 57) (i := 2) (u := v2 + (1 : Int32)) (lv' := [(2, .int (v2 + (1 : Int32))), (0, .ref v0), (1, .float v1)]) dX6_isWord_57 rfl rfl (by decide) rfl ?_
      refine V_goto (pc := 60) (tgt := 28) dX6_isWord_60 (by decide) ?_
      cases e
      exact V_pick [1, 2, 0] rfl (kI _ rfl)
    · rw [if_neg c11] at e
      cases e
      exact V_pick [] rfl (kE55 _ rfl)
set_option maxRecDepth 100000 in
def F_X6_isWord_b0 (v0 : Nat) (v1 : UInt32) (h : Hp) : Option Int32 :=
  gd (decide (kd h v0 = 6)) <| (if (zI h v0 2) = (1 : Int32) then gd (decide ((v1).toNat < 64)) <| (if (slen v1) = ((zI h v0 4) - (zI h v0 3)) then ob (iter (fun z : Int32 => F_X6_isWord_l28 v0 v1 z h) FU (0 : Int32)) (fun z => sm z (fun _ => some (1 : Int32)) (fun _ => some (0 : Int32))) else F_X6_isWord_b24 h) else F_X6_isWord_b24 h)
set_option maxHeartbeats 4000000 in
set_option maxRecDepth 100000 in
theorem r_X6_isWord_b0 (v0 : Nat) (v1 : UInt32) (h : Hp) {x : Cx} {r : Int32} (e : F_X6_isWord_b0 v0 v1 h = some r) (hF : Fin9 M_X6_isWord x (some .boolean) (some (.int r)) h) : V M_X6_isWord x 4 0 [(0, .ref v0), (1, .float v1)] [] h 0 0 := by
  unfold F_X6_isWord_b0 at e
  refine V_aload_n (pc := 0) (i := 0) dX6_isWord_0 rfl rfl ?_
  obtain ⟨g1, e⟩ := gd_some e
  refine V_getI (pc := 1) (ci := 6) (k := 2) dX6_isWord_1 fl_X6_19 rfl (of_decide_eq_true g1) ?_
  refine V_iconst (pc := 4) (v := (1 : Int32)) dX6_isWord_4 (by decide) ?_
  refine V_icmp_ne (pc := 5) (tgt := 24) dX6_isWord_5 (by decide) (fun c18 => ?_) (fun c18 => ?_)
  · rw [if_neg c18] at e
    exact V_pick [] rfl (r_X6_isWord_b24 h e hF)
  · rw [if_pos c18] at e
    refine V_pick [0, 1] rfl ?_
    refine V_saload_n (pc := 8) (i := 1) dX6_isWord_8 rfl rfl ?_
    obtain ⟨g2, e⟩ := gd_some e
    refine V_slen (pc := 9) dX6_isWord_9 ms_X6_43 (of_decide_eq_true g2) (by decide) (Nat.le_of_ble_eq_true rfl) ?_
    refine V_aload_n (pc := 12) (i := 0) dX6_isWord_12 rfl rfl ?_
    refine V_getI (pc := 13) (ci := 6) (k := 4) dX6_isWord_13 fl_X6_25 rfl (of_decide_eq_true g1) ?_
    refine V_aload_n (pc := 16) (i := 0) dX6_isWord_16 rfl rfl ?_
    refine V_getI (pc := 17) (ci := 6) (k := 3) dX6_isWord_17 fl_X6_22 rfl (of_decide_eq_true g1) ?_
    refine V_isub (pc := 20) dX6_isWord_20 ?_
    refine V_icmp_eq (pc := 21) (tgt := 26) dX6_isWord_21 (by decide) (fun c17 => ?_) (fun c17 => ?_)
    · rw [if_pos c17] at e
      refine V_pick [0, 1] rfl ?_
      refine V_iconst (pc := 26) (v := (0 : Int32)) dX6_isWord_26 (by decide) ?_
      refine V_istore_n (pc := 27) (i := 2) (lv' := [(2, .int (0 : Int32)), (0, .ref v0), (1, .float v1)]) dX6_isWord_27 rfl (by decide) rfl ?_
      refine V_pick [1, 2, 0] rfl ?_
      obtain ⟨y13, g14, e⟩ := ob_some e
      refine iter_V (P := fun z : Int32 => V M_X6_isWord x 4 28 [(0, .ref v0), (1, .float v1), (2, .int z)] [] h 0 0) (E := fun z => Sum.elim (fun z : Unit => V M_X6_isWord x 4 63 [] [] h 0 0) (fun z : Unit => V M_X6_isWord x 4 55 [] [] h 0 0) z) (fun z o e9 k1 k2 => r_X6_isWord_l28 v0 v1 z h e9 (fun z hz9 => k1 z hz9) (fun z hz9 => k2 _ hz9) (fun z hz9 => k2 _ hz9)) _ _ _ g14 ?_
      clear g14
      rcases y13 with y15 | y16
      · replace e : (some (1 : Int32)) = some r := e
        show V M_X6_isWord x 4 63 [] [] h 0 0
        refine V_iconst (pc := 63) (v := (1 : Int32)) dX6_isWord_63 (by decide) ?_
        cases e
        exact V_zret (pc := 64) dX6_isWord_64 rfl hF
      · replace e : (some (0 : Int32)) = some r := e
        show V M_X6_isWord x 4 55 [] [] h 0 0
        refine V_iconst (pc := 55) (v := (0 : Int32)) dX6_isWord_55 (by decide) ?_
        cases e
        exact V_zret (pc := 56) dX6_isWord_56 rfl hF
    · rw [if_neg c17] at e
      exact V_pick [] rfl (r_X6_isWord_b24 h e hF)
def F_X6_isWord (v0 : Nat) (v1 : UInt32) (h : Hp) : Option Int32 := F_X6_isWord_b0 v0 v1 h
theorem c_X6_isWord {l : Launch} (v0 : Nat) (v1 : UInt32) (h : Hp) {r : Int32} (e : F_X6_isWord v0 v1 h = some r) : Ct l yX6_isWord M_X6_isWord (some .boolean) 4 [.ref v0, .float v1] h 0 0 (some (.int r)) h :=
  Ct_of rfl rfl (fun q => by cases q) (Nat.le_of_ble_eq_true rfl) (fun x _ hF => V_pick [0, 1] rfl (r_X6_isWord_b0 v0 v1 h e hF))
theorem dX6_refuse_0 : decode cX6_refuse 0 = .ok (.aload_n 0, 1) := by decide +kernel
theorem dX6_refuse_1 : decode cX6_refuse 1 = .ok (.aload_n 0, 1) := by decide +kernel
theorem dX6_refuse_2 : decode cX6_refuse 2 = .ok (.getfield 22, 3) := by decide +kernel
theorem dX6_refuse_5 : decode cX6_refuse 5 = .ok (.putfield 31, 3) := by decide +kernel
theorem dX6_refuse_8 : decode cX6_refuse 8 = .ok (.iconst 0, 1) := by decide +kernel
theorem dX6_refuse_9 : decode cX6_refuse 9 = .ok (.ireturn, 1) := by decide +kernel
set_option maxRecDepth 100000 in
def F_X6_refuse_b0 (v0 : Nat) (h : Hp) : Option (Int32 × Hp) :=
  gd (decide (kd h v0 = 6)) <| some ((0 : Int32), setI h v0 6 (zI h v0 3))
set_option maxHeartbeats 4000000 in
set_option maxRecDepth 100000 in
theorem r_X6_refuse_b0 (v0 : Nat) (h : Hp) {x : Cx} {r : Int32} {hz : Hp} (e : F_X6_refuse_b0 v0 h = some (r, hz)) (hF : Fin9 M_X6_refuse x (some .boolean) (some (.int r)) hz) : V M_X6_refuse x 0 0 [(0, .ref v0)] [] h 0 0 := by
  unfold F_X6_refuse_b0 at e
  refine V_aload_n (pc := 0) (i := 0) dX6_refuse_0 rfl rfl ?_
  refine V_aload_n (pc := 1) (i := 0) dX6_refuse_1 rfl rfl ?_
  obtain ⟨g1, e⟩ := gd_some e
  refine V_getI (pc := 2) (ci := 6) (k := 3) dX6_refuse_2 fl_X6_22 rfl (of_decide_eq_true g1) ?_
  refine V_putI (pc := 5) (ci := 6) (k := 6) dX6_refuse_5 fp_X6_31 rfl (of_decide_eq_true g1) ?_
  refine V_iconst (pc := 8) (v := (0 : Int32)) dX6_refuse_8 (by decide) ?_
  cases e
  exact V_zret (pc := 9) dX6_refuse_9 rfl hF
def F_X6_refuse (v0 : Nat) (h : Hp) : Option (Int32 × Hp) := F_X6_refuse_b0 v0 h
theorem c_X6_refuse {l : Launch} (v0 : Nat) (h : Hp) {r : Int32} {hz : Hp} (e : F_X6_refuse v0 h = some (r, hz)) : Ct l yX6_refuse M_X6_refuse (some .boolean) 0 [.ref v0] h 0 0 (some (.int r)) hz :=
  Ct_of rfl rfl (fun q => by cases q) (Nat.le_of_ble_eq_true rfl) (fun x _ hF => V_pick [0] rfl (r_X6_refuse_b0 v0 h e hF))
theorem dX6_takeSign_0 : decode cX6_takeSign 0 = .ok (.aload_n 0, 1) := by decide +kernel
theorem dX6_takeSign_1 : decode cX6_takeSign 1 = .ok (.iload_n 1, 1) := by decide +kernel
theorem dX6_takeSign_2 : decode cX6_takeSign 2 = .ok (.invokevirtual 52, 3) := by decide +kernel
theorem dX6_takeSign_5 : decode cX6_takeSign 5 = .ok (.ifCond .ne 8, 3) := by decide +kernel
theorem dX6_takeSign_8 : decode cX6_takeSign 8 = .ok (.aload_n 0, 1) := by decide +kernel
theorem dX6_takeSign_9 : decode cX6_takeSign 9 = .ok (.invokevirtual 56, 3) := by decide +kernel
theorem dX6_takeSign_12 : decode cX6_takeSign 12 = .ok (.ireturn, 1) := by decide +kernel
theorem dX6_takeSign_13 : decode cX6_takeSign 13 = .ok (.aload_n 0, 1) := by decide +kernel
theorem dX6_takeSign_14 : decode cX6_takeSign 14 = .ok (.invokevirtual 34, 3) := by decide +kernel
theorem dX6_takeSign_17 : decode cX6_takeSign 17 = .ok (.iconst 1, 1) := by decide +kernel
theorem dX6_takeSign_18 : decode cX6_takeSign 18 = .ok (.ireturn, 1) := by decide +kernel
set_option maxRecDepth 100000 in
def F_X6_takeSign_b0 (v0 : Nat) (v1 : Int32) (h : Hp) : Option (Int32 × Hp) :=
  ob (F_X6_isSign v0 v1 h) fun r2 => gd (decide (kd h v0 = 6)) <| (if r2 = 0 then ob2 (F_X6_refuse v0 h) fun r8 h9 => gd (decide (r8 = 0 ∨ r8 = 1)) <| some (r8, h9) else ob2 (F_X6_lookAtNext v0 h) fun _ h6 => some ((1 : Int32), h6))
set_option maxHeartbeats 4000000 in
set_option maxRecDepth 100000 in
theorem r_X6_takeSign_b0 (v0 : Nat) (v1 : Int32) (h : Hp) {x : Cx} {r : Int32} {hz : Hp} (e : F_X6_takeSign_b0 v0 v1 h = some (r, hz)) (hF : Fin9 M_X6_takeSign x (some .boolean) (some (.int r)) hz) : V M_X6_takeSign x 2 0 [(0, .ref v0), (1, .int v1)] [] h 0 0 := by
  unfold F_X6_takeSign_b0 at e
  refine V_aload_n (pc := 0) (i := 0) dX6_takeSign_0 rfl rfl ?_
  refine V_iload_n (pc := 1) (i := 1) dX6_takeSign_1 rfl rfl ?_
  obtain ⟨r2, g1, e⟩ := ob_some e
  obtain ⟨g3, e⟩ := gd_some e
  refine V_callV (pc := 2) (bc := 0) (bs := 0) (mc := 0) (ms := 0) (st := []) (As := [.int v1]) (a := v0) (h' := h) (r := some (.int r2)) dX6_takeSign_2 ml_X6_52 (ci := 6) rfl (of_decide_eq_true g3) rfl rfl (Nat.le_of_ble_eq_true rfl) (d' := 0) (by decide) (c_X6_isSign (l := x.2.1) v0 v1 h g1) ?_
  refine V_if_ne (pc := 5) (tgt := 13) dX6_takeSign_5 (by decide) (fun c11 => ?_) (fun c11 => ?_)
  · rw [if_neg c11] at e
    refine V_pick [0] rfl ?_
    refine V_aload_n (pc := 13) (i := 0) dX6_takeSign_13 rfl rfl ?_
    obtain ⟨r5, h6, g4, e⟩ := ob2_some e
    refine V_callV (pc := 14) (bc := 0) (bs := 0) (mc := 0) (ms := 0) (st := []) (As := []) (a := v0) (h' := h6) (r := none) dX6_takeSign_14 ml_X6_34 (ci := 6) rfl (of_decide_eq_true g3) rfl rfl (Nat.le_of_ble_eq_true rfl) (d' := 1) (by decide) (c_X6_lookAtNext (l := x.2.1) v0 h g4) ?_
    refine V_iconst (pc := 17) (v := (1 : Int32)) dX6_takeSign_17 (by decide) ?_
    cases e
    exact V_zret (pc := 18) dX6_takeSign_18 rfl hF
  · rw [if_pos c11] at e
    refine V_pick [0] rfl ?_
    refine V_aload_n (pc := 8) (i := 0) dX6_takeSign_8 rfl rfl ?_
    obtain ⟨r8, h9, g7, e⟩ := ob2_some e
    refine V_callV (pc := 9) (bc := 0) (bs := 0) (mc := 0) (ms := 0) (st := []) (As := []) (a := v0) (h' := h9) (r := some (.int r8)) dX6_takeSign_9 ml_X6_56 (ci := 6) rfl (of_decide_eq_true g3) rfl rfl (Nat.le_of_ble_eq_true rfl) (d' := 0) (by decide) (c_X6_refuse (l := x.2.1) v0 h g7) ?_
    obtain ⟨g10, e⟩ := gd_some e
    cases e
    exact V_zret (pc := 12) dX6_takeSign_12 (z01 (of_decide_eq_true g10)) hF
def F_X6_takeSign (v0 : Nat) (v1 : Int32) (h : Hp) : Option (Int32 × Hp) := F_X6_takeSign_b0 v0 v1 h
theorem c_X6_takeSign {l : Launch} (v0 : Nat) (v1 : Int32) (h : Hp) {r : Int32} {hz : Hp} (e : F_X6_takeSign v0 v1 h = some (r, hz)) : Ct l yX6_takeSign M_X6_takeSign (some .boolean) 2 [.ref v0, .int v1] h 0 0 (some (.int r)) hz :=
  Ct_of rfl rfl (fun q => by cases q) (Nat.le_of_ble_eq_true rfl) (fun x _ hF => V_pick [0, 1] rfl (r_X6_takeSign_b0 v0 v1 h e hF))
theorem dX6_takeWord_0 : decode cX6_takeWord 0 = .ok (.aload_n 0, 1) := by decide +kernel
theorem dX6_takeWord_1 : decode cX6_takeWord 1 = .ok (.aload_n 1, 1) := by decide +kernel
theorem dX6_takeWord_2 : decode cX6_takeWord 2 = .ok (.invokevirtual 60, 3) := by decide +kernel
theorem dX6_takeWord_5 : decode cX6_takeWord 5 = .ok (.ifCond .ne 8, 3) := by decide +kernel
theorem dX6_takeWord_8 : decode cX6_takeWord 8 = .ok (.aload_n 0, 1) := by decide +kernel
theorem dX6_takeWord_9 : decode cX6_takeWord 9 = .ok (.invokevirtual 56, 3) := by decide +kernel
theorem dX6_takeWord_12 : decode cX6_takeWord 12 = .ok (.ireturn, 1) := by decide +kernel
theorem dX6_takeWord_13 : decode cX6_takeWord 13 = .ok (.aload_n 0, 1) := by decide +kernel
theorem dX6_takeWord_14 : decode cX6_takeWord 14 = .ok (.invokevirtual 34, 3) := by decide +kernel
theorem dX6_takeWord_17 : decode cX6_takeWord 17 = .ok (.iconst 1, 1) := by decide +kernel
theorem dX6_takeWord_18 : decode cX6_takeWord 18 = .ok (.ireturn, 1) := by decide +kernel
set_option maxRecDepth 100000 in
def F_X6_takeWord_b0 (v0 : Nat) (v1 : UInt32) (h : Hp) : Option (Int32 × Hp) :=
  ob (F_X6_isWord v0 v1 h) fun r2 => gd (decide (kd h v0 = 6)) <| (if r2 = 0 then ob2 (F_X6_refuse v0 h) fun r8 h9 => gd (decide (r8 = 0 ∨ r8 = 1)) <| some (r8, h9) else ob2 (F_X6_lookAtNext v0 h) fun _ h6 => some ((1 : Int32), h6))
set_option maxHeartbeats 4000000 in
set_option maxRecDepth 100000 in
theorem r_X6_takeWord_b0 (v0 : Nat) (v1 : UInt32) (h : Hp) {x : Cx} {r : Int32} {hz : Hp} (e : F_X6_takeWord_b0 v0 v1 h = some (r, hz)) (hF : Fin9 M_X6_takeWord x (some .boolean) (some (.int r)) hz) : V M_X6_takeWord x 5 0 [(0, .ref v0), (1, .float v1)] [] h 0 0 := by
  unfold F_X6_takeWord_b0 at e
  refine V_aload_n (pc := 0) (i := 0) dX6_takeWord_0 rfl rfl ?_
  refine V_saload_n (pc := 1) (i := 1) dX6_takeWord_1 rfl rfl ?_
  obtain ⟨r2, g1, e⟩ := ob_some e
  obtain ⟨g3, e⟩ := gd_some e
  refine V_callV (pc := 2) (bc := 0) (bs := 0) (mc := 0) (ms := 0) (st := []) (As := [.float v1]) (a := v0) (h' := h) (r := some (.int r2)) dX6_takeWord_2 ml_X6_60 (ci := 6) rfl (of_decide_eq_true g3) rfl rfl (Nat.le_of_ble_eq_true rfl) (d' := 4) (by decide) (c_X6_isWord (l := x.2.1) v0 v1 h g1) ?_
  refine V_if_ne (pc := 5) (tgt := 13) dX6_takeWord_5 (by decide) (fun c11 => ?_) (fun c11 => ?_)
  · rw [if_neg c11] at e
    refine V_pick [0] rfl ?_
    refine V_aload_n (pc := 13) (i := 0) dX6_takeWord_13 rfl rfl ?_
    obtain ⟨r5, h6, g4, e⟩ := ob2_some e
    refine V_callV (pc := 14) (bc := 0) (bs := 0) (mc := 0) (ms := 0) (st := []) (As := []) (a := v0) (h' := h6) (r := none) dX6_takeWord_14 ml_X6_34 (ci := 6) rfl (of_decide_eq_true g3) rfl rfl (Nat.le_of_ble_eq_true rfl) (d' := 1) (by decide) (c_X6_lookAtNext (l := x.2.1) v0 h g4) ?_
    refine V_iconst (pc := 17) (v := (1 : Int32)) dX6_takeWord_17 (by decide) ?_
    cases e
    exact V_zret (pc := 18) dX6_takeWord_18 rfl hF
  · rw [if_pos c11] at e
    refine V_pick [0] rfl ?_
    refine V_aload_n (pc := 8) (i := 0) dX6_takeWord_8 rfl rfl ?_
    obtain ⟨r8, h9, g7, e⟩ := ob2_some e
    refine V_callV (pc := 9) (bc := 0) (bs := 0) (mc := 0) (ms := 0) (st := []) (As := []) (a := v0) (h' := h9) (r := some (.int r8)) dX6_takeWord_9 ml_X6_56 (ci := 6) rfl (of_decide_eq_true g3) rfl rfl (Nat.le_of_ble_eq_true rfl) (d' := 0) (by decide) (c_X6_refuse (l := x.2.1) v0 h g7) ?_
    obtain ⟨g10, e⟩ := gd_some e
    cases e
    exact V_zret (pc := 12) dX6_takeWord_12 (z01 (of_decide_eq_true g10)) hF
def F_X6_takeWord (v0 : Nat) (v1 : UInt32) (h : Hp) : Option (Int32 × Hp) := F_X6_takeWord_b0 v0 v1 h
theorem c_X6_takeWord {l : Launch} (v0 : Nat) (v1 : UInt32) (h : Hp) {r : Int32} {hz : Hp} (e : F_X6_takeWord v0 v1 h = some (r, hz)) : Ct l yX6_takeWord M_X6_takeWord (some .boolean) 5 [.ref v0, .float v1] h 0 0 (some (.int r)) hz :=
  Ct_of rfl rfl (fun q => by cases q) (Nat.le_of_ble_eq_true rfl) (fun x _ hF => V_pick [0, 1] rfl (r_X6_takeWord_b0 v0 v1 h e hF))
theorem dX6_takeNumber_0 : decode cX6_takeNumber 0 = .ok (.aload_n 0, 1) := by decide +kernel
theorem dX6_takeNumber_1 : decode cX6_takeNumber 1 = .ok (.getfield 19, 3) := by decide +kernel
theorem dX6_takeNumber_4 : decode cX6_takeNumber 4 = .ok (.iconst 2, 1) := by decide +kernel
theorem dX6_takeNumber_5 : decode cX6_takeNumber 5 = .ok (.if_icmp .ne 16, 3) := by decide +kernel
theorem dX6_takeNumber_8 : decode cX6_takeNumber 8 = .ok (.aload_n 0, 1) := by decide +kernel
theorem dX6_takeNumber_9 : decode cX6_takeNumber 9 = .ok (.getfield 25, 3) := by decide +kernel
theorem dX6_takeNumber_12 : decode cX6_takeNumber 12 = .ok (.aload_n 0, 1) := by decide +kernel
theorem dX6_takeNumber_13 : decode cX6_takeNumber 13 = .ok (.getfield 22, 3) := by decide +kernel
theorem dX6_takeNumber_16 : decode cX6_takeNumber 16 = .ok (.isub, 1) := by decide +kernel
theorem dX6_takeNumber_17 : decode cX6_takeNumber 17 = .ok (.iconst 5, 1) := by decide +kernel
theorem dX6_takeNumber_18 : decode cX6_takeNumber 18 = .ok (.if_icmp .le 8, 3) := by decide +kernel
theorem dX6_takeNumber_21 : decode cX6_takeNumber 21 = .ok (.aload_n 0, 1) := by decide +kernel
theorem dX6_takeNumber_22 : decode cX6_takeNumber 22 = .ok (.invokevirtual 56, 3) := by decide +kernel
theorem dX6_takeNumber_25 : decode cX6_takeNumber 25 = .ok (.ireturn, 1) := by decide +kernel
theorem dX6_takeNumber_26 : decode cX6_takeNumber 26 = .ok (.iconst 0, 1) := by decide +kernel
theorem dX6_takeNumber_27 : decode cX6_takeNumber 27 = .ok (.istore_n 3, 1) := by decide +kernel
theorem dX6_takeNumber_28 : decode cX6_takeNumber 28 = .ok (.aload_n 0, 1) := by decide +kernel
theorem dX6_takeNumber_29 : decode cX6_takeNumber 29 = .ok (.getfield 22, 3) := by decide +kernel
theorem dX6_takeNumber_32 : decode cX6_takeNumber 32 = .ok (.istore 4, 2) := by decide +kernel
theorem dX6_takeNumber_34 : decode cX6_takeNumber 34 = .ok (.iload 4, 2) := by decide +kernel
theorem dX6_takeNumber_36 : decode cX6_takeNumber 36 = .ok (.aload_n 0, 1) := by decide +kernel
theorem dX6_takeNumber_37 : decode cX6_takeNumber 37 = .ok (.getfield 25, 3) := by decide +kernel
theorem dX6_takeNumber_40 : decode cX6_takeNumber 40 = .ok (.if_icmp .ge 25, 3) := by decide +kernel
theorem dX6_takeNumber_43 : decode cX6_takeNumber 43 = .ok (.bipush 10, 2) := by decide +kernel
theorem dX6_takeNumber_45 : decode cX6_takeNumber 45 = .ok (.iload_n 3, 1) := by decide +kernel
theorem dX6_takeNumber_46 : decode cX6_takeNumber 46 = .ok (.imul, 1) := by decide +kernel
theorem dX6_takeNumber_47 : decode cX6_takeNumber 47 = .ok (.aload_n 0, 1) := by decide +kernel
theorem dX6_takeNumber_48 : decode cX6_takeNumber 48 = .ok (.getfield 9, 3) := by decide +kernel
theorem dX6_takeNumber_51 : decode cX6_takeNumber 51 = .ok (.iload 4, 2) := by decide +kernel
theorem dX6_takeNumber_53 : decode cX6_takeNumber 53 = .ok (.baload, 1) := by decide +kernel
theorem dX6_takeNumber_54 : decode cX6_takeNumber 54 = .ok (.iadd, 1) := by decide +kernel
theorem dX6_takeNumber_55 : decode cX6_takeNumber 55 = .ok (.bipush 48, 2) := by decide +kernel
theorem dX6_takeNumber_57 : decode cX6_takeNumber 57 = .ok (.isub, 1) := by decide +kernel
theorem dX6_takeNumber_58 : decode cX6_takeNumber 58 = .ok (.istore_n 3, 1) := by decide +kernel
theorem dX6_takeNumber_59 : decode cX6_takeNumber 59 = .ok (.iinc 4 1, 3) := by decide +kernel
theorem dX6_takeNumber_62 : decode cX6_takeNumber 62 = .ok (.goto (-28), 3) := by decide +kernel
theorem dX6_takeNumber_65 : decode cX6_takeNumber 65 = .ok (.iload_n 3, 1) := by decide +kernel
theorem dX6_takeNumber_66 : decode cX6_takeNumber 66 = .ok (.iload_n 1, 1) := by decide +kernel
theorem dX6_takeNumber_67 : decode cX6_takeNumber 67 = .ok (.if_icmp .lt 8, 3) := by decide +kernel
theorem dX6_takeNumber_70 : decode cX6_takeNumber 70 = .ok (.iload_n 3, 1) := by decide +kernel
theorem dX6_takeNumber_71 : decode cX6_takeNumber 71 = .ok (.iload_n 2, 1) := by decide +kernel
theorem dX6_takeNumber_72 : decode cX6_takeNumber 72 = .ok (.if_icmp .le 8, 3) := by decide +kernel
theorem dX6_takeNumber_75 : decode cX6_takeNumber 75 = .ok (.aload_n 0, 1) := by decide +kernel
theorem dX6_takeNumber_76 : decode cX6_takeNumber 76 = .ok (.invokevirtual 56, 3) := by decide +kernel
theorem dX6_takeNumber_79 : decode cX6_takeNumber 79 = .ok (.ireturn, 1) := by decide +kernel
theorem dX6_takeNumber_80 : decode cX6_takeNumber 80 = .ok (.aload_n 0, 1) := by decide +kernel
theorem dX6_takeNumber_81 : decode cX6_takeNumber 81 = .ok (.iload_n 3, 1) := by decide +kernel
theorem dX6_takeNumber_82 : decode cX6_takeNumber 82 = .ok (.putfield 28, 3) := by decide +kernel
theorem dX6_takeNumber_85 : decode cX6_takeNumber 85 = .ok (.aload_n 0, 1) := by decide +kernel
theorem dX6_takeNumber_86 : decode cX6_takeNumber 86 = .ok (.invokevirtual 34, 3) := by decide +kernel
theorem dX6_takeNumber_89 : decode cX6_takeNumber 89 = .ok (.iconst 1, 1) := by decide +kernel
theorem dX6_takeNumber_90 : decode cX6_takeNumber 90 = .ok (.ireturn, 1) := by decide +kernel
set_option maxRecDepth 100000 in
def F_X6_takeNumber_b21 (v0 : Nat) (h : Hp) : Option (Int32 × Hp) :=
  ob2 (F_X6_refuse v0 h) fun r3 h4 => gd (decide (kd h v0 = 6)) <| gd (decide (r3 = 0 ∨ r3 = 1)) <| some (r3, h4)
set_option maxHeartbeats 4000000 in
set_option maxRecDepth 100000 in
theorem r_X6_takeNumber_b21 (v0 : Nat) (h : Hp) {x : Cx} {r : Int32} {hz : Hp} (e : F_X6_takeNumber_b21 v0 h = some (r, hz)) (hF : Fin9 M_X6_takeNumber x (some .boolean) (some (.int r)) hz) : V M_X6_takeNumber x 2 21 [(0, .ref v0)] [] h 0 0 := by
  unfold F_X6_takeNumber_b21 at e
  refine V_aload_n (pc := 21) (i := 0) dX6_takeNumber_21 rfl rfl ?_
  obtain ⟨r3, h4, g2, e⟩ := ob2_some e
  obtain ⟨g5, e⟩ := gd_some e
  refine V_callV (pc := 22) (bc := 0) (bs := 0) (mc := 0) (ms := 0) (st := []) (As := []) (a := v0) (h' := h4) (r := some (.int r3)) dX6_takeNumber_22 ml_X6_56 (ci := 6) rfl (of_decide_eq_true g5) rfl rfl (Nat.le_of_ble_eq_true rfl) (d' := 0) (by decide) (c_X6_refuse (l := x.2.1) v0 h g2) ?_
  obtain ⟨g6, e⟩ := gd_some e
  cases e
  exact V_zret (pc := 25) dX6_takeNumber_25 (z01 (of_decide_eq_true g6)) hF
set_option maxRecDepth 100000 in
def F_X6_takeNumber_l34 (v0 : Nat) (v1 : Int32) (v2 : Int32) (v3 : Int32) (v4 : Int32) (h : Hp) : Option ((Int32 × Int32) ⊕ Int32) :=
  gd (decide (kd h v0 = 6)) <| (if (zI h v0 4) ≤ v4 then some (.inr v3) else ob (zR h v0 0) fun q8 => gd (decide (kd h q8 = 12)) <| gd (ix v4 (zl h q8)) <| some (.inl ((((10 : Int32) * v3) + (zI h q8 (v4).toNatClampNeg)) - (48 : Int32), v4 + (1 : Int32))))
set_option maxHeartbeats 4000000 in
set_option maxRecDepth 100000 in
theorem r_X6_takeNumber_l34 (v0 : Nat) (v1 : Int32) (v2 : Int32) (v3 : Int32) (v4 : Int32) (h : Hp) {x : Cx} {o : ((Int32 × Int32) ⊕ Int32)} (e : F_X6_takeNumber_l34 v0 v1 v2 v3 v4 h = some o) (kI : ∀ z, o = .inl z → V M_X6_takeNumber x 2 34 [(0, .ref v0), (1, .int v1), (2, .int v2), (3, .int z.1), (4, .int z.2)] [] h 0 0) (kE65 : ∀ z : Int32, o = .inr z → V M_X6_takeNumber x 2 65 [(0, .ref v0), (1, .int v1), (2, .int v2), (3, .int z)] [] h 0 0) : V M_X6_takeNumber x 2 34 [(0, .ref v0), (1, .int v1), (2, .int v2), (3, .int v3), (4, .int v4)] [] h 0 0 := by
  unfold F_X6_takeNumber_l34 at e
  refine V_iload (pc := 34) (i := 4) dX6_takeNumber_34 rfl ?_
  refine V_aload_n (pc := 36) (i := 0) dX6_takeNumber_36 rfl rfl ?_
  obtain ⟨g7, e⟩ := gd_some e
  refine V_getI (pc := 37) (ci := 6) (k := 4) dX6_takeNumber_37 fl_X6_25 rfl (of_decide_eq_true g7) ?_
  refine V_icmp_ge (pc := 40) (tgt := 65) dX6_takeNumber_40 (by decide) (fun c12 => ?_) (fun c12 => ?_)
  · rw [if_pos c12] at e
    cases e
    exact V_pick [0, 1, 2, 3] rfl (kE65 _ rfl)
  · rw [if_neg c12] at e
    refine V_pick [0, 1, 2, 3, 4] rfl ?_
    refine V_bipush (pc := 43) (v := (10 : Int32)) dX6_takeNumber_43 (by decide) ?_
    refine V_iload_n (pc := 45) (i := 3) dX6_takeNumber_45 rfl rfl ?_
    refine V_imul (pc := 46) dX6_takeNumber_46 ?_
    refine V_aload_n (pc := 47) (i := 0) dX6_takeNumber_47 rfl rfl ?_
    obtain ⟨q8, g9, e⟩ := ob_some e
    refine V_getR (pc := 48) (ci := 6) (k := 0) (b := q8) dX6_takeNumber_48 fl_X6_9 rfl (of_decide_eq_true g7) g9 ?_
    refine V_iload (pc := 51) (i := 4) dX6_takeNumber_51 rfl ?_
    obtain ⟨g10, e⟩ := gd_some e
    obtain ⟨g11, e⟩ := gd_some e
    refine V_bald (pc := 53) dX6_takeNumber_53 (of_decide_eq_true g10) (ix_in g11) ?_
    refine V_iadd (pc := 54) dX6_takeNumber_54 ?_
    refine V_bipush (pc := 55) (v := (48 : Int32)) dX6_takeNumber_55 (by decide) ?_
    refine V_isub (pc := 57) dX6_takeNumber_57 ?_
    refine V_istore_n (pc := 58) (i := 3) (lv' := [(3, .int ((((10 : Int32) * v3) + (zI h q8 (v4).toNatClampNeg)) - (48 : Int32))), (0, .ref v0), (1, .int v1), (2, .int v2), (4, .int v4)]) dX6_takeNumber_58 rfl (by decide) rfl ?_
    refine V_iinc (pc := 59) (i := 4) (u := v4 + (1 : Int32)) (lv' := [(4, .int (v4 + (1 : Int32))), (3, .int ((((10 : Int32) * v3) + (zI h q8 (v4).toNatClampNeg)) - (48 : Int32))), (0, .ref v0), (1, .int v1), (2, .int v2)]) dX6_takeNumber_59 rfl rfl (by decide) rfl ?_
    refine V_goto (pc := 62) (tgt := 34) dX6_takeNumber_62 (by decide) ?_
    cases e
    exact V_pick [2, 3, 4, 1, 0] rfl (kI _ rfl)
set_option maxRecDepth 100000 in
def F_X6_takeNumber_b75 (v0 : Nat) (h : Hp) : Option (Int32 × Hp) :=
  ob2 (F_X6_refuse v0 h) fun r15 h16 => gd (decide (kd h v0 = 6)) <| gd (decide (r15 = 0 ∨ r15 = 1)) <| some (r15, h16)
set_option maxHeartbeats 4000000 in
set_option maxRecDepth 100000 in
theorem r_X6_takeNumber_b75 (v0 : Nat) (h : Hp) {x : Cx} {r : Int32} {hz : Hp} (e : F_X6_takeNumber_b75 v0 h = some (r, hz)) (hF : Fin9 M_X6_takeNumber x (some .boolean) (some (.int r)) hz) : V M_X6_takeNumber x 2 75 [(0, .ref v0)] [] h 0 0 := by
  unfold F_X6_takeNumber_b75 at e
  refine V_aload_n (pc := 75) (i := 0) dX6_takeNumber_75 rfl rfl ?_
  obtain ⟨r15, h16, g14, e⟩ := ob2_some e
  obtain ⟨g17, e⟩ := gd_some e
  refine V_callV (pc := 76) (bc := 0) (bs := 0) (mc := 0) (ms := 0) (st := []) (As := []) (a := v0) (h' := h16) (r := some (.int r15)) dX6_takeNumber_76 ml_X6_56 (ci := 6) rfl (of_decide_eq_true g17) rfl rfl (Nat.le_of_ble_eq_true rfl) (d' := 0) (by decide) (c_X6_refuse (l := x.2.1) v0 h g14) ?_
  obtain ⟨g18, e⟩ := gd_some e
  cases e
  exact V_zret (pc := 79) dX6_takeNumber_79 (z01 (of_decide_eq_true g18)) hF
set_option maxRecDepth 100000 in
def F_X6_takeNumber_b0 (v0 : Nat) (v1 : Int32) (v2 : Int32) (h : Hp) : Option (Int32 × Hp) :=
  gd (decide (kd h v0 = 6)) <| (if (zI h v0 2) = (2 : Int32) then (if ((zI h v0 4) - (zI h v0 3)) ≤ (5 : Int32) then ob (iter (fun z : Int32 × Int32 => F_X6_takeNumber_l34 v0 v1 v2 z.1 z.2 h) FU ((0 : Int32), zI h v0 3)) (fun w13 => (if w13 < v1 then F_X6_takeNumber_b75 v0 h else (if w13 ≤ v2 then ob2 (F_X6_lookAtNext v0 (setI h v0 5 w13)) fun _ h21 => some ((1 : Int32), h21) else F_X6_takeNumber_b75 v0 h))) else F_X6_takeNumber_b21 v0 h) else F_X6_takeNumber_b21 v0 h)
set_option maxHeartbeats 4000000 in
set_option maxRecDepth 100000 in
theorem r_X6_takeNumber_b0 (v0 : Nat) (v1 : Int32) (v2 : Int32) (h : Hp) {x : Cx} {r : Int32} {hz : Hp} (e : F_X6_takeNumber_b0 v0 v1 v2 h = some (r, hz)) (hF : Fin9 M_X6_takeNumber x (some .boolean) (some (.int r)) hz) : V M_X6_takeNumber x 2 0 [(0, .ref v0), (1, .int v1), (2, .int v2)] [] h 0 0 := by
  unfold F_X6_takeNumber_b0 at e
  refine V_aload_n (pc := 0) (i := 0) dX6_takeNumber_0 rfl rfl ?_
  obtain ⟨g1, e⟩ := gd_some e
  refine V_getI (pc := 1) (ci := 6) (k := 2) dX6_takeNumber_1 fl_X6_19 rfl (of_decide_eq_true g1) ?_
  refine V_iconst (pc := 4) (v := (2 : Int32)) dX6_takeNumber_4 (by decide) ?_
  refine V_icmp_ne (pc := 5) (tgt := 21) dX6_takeNumber_5 (by decide) (fun c27 => ?_) (fun c27 => ?_)
  · rw [if_neg c27] at e
    exact V_pick [0] rfl (r_X6_takeNumber_b21 v0 h e hF)
  · rw [if_pos c27] at e
    refine V_pick [0, 1, 2] rfl ?_
    refine V_aload_n (pc := 8) (i := 0) dX6_takeNumber_8 rfl rfl ?_
    refine V_getI (pc := 9) (ci := 6) (k := 4) dX6_takeNumber_9 fl_X6_25 rfl (of_decide_eq_true g1) ?_
    refine V_aload_n (pc := 12) (i := 0) dX6_takeNumber_12 rfl rfl ?_
    refine V_getI (pc := 13) (ci := 6) (k := 3) dX6_takeNumber_13 fl_X6_22 rfl (of_decide_eq_true g1) ?_
    refine V_isub (pc := 16) dX6_takeNumber_16 ?_
    refine V_iconst (pc := 17) (v := (5 : Int32)) dX6_takeNumber_17 (by decide) ?_
    refine V_icmp_le (pc := 18) (tgt := 26) dX6_takeNumber_18 (by decide) (fun c26 => ?_) (fun c26 => ?_)
    · rw [if_pos c26] at e
      refine V_pick [0, 1, 2] rfl ?_
      refine V_iconst (pc := 26) (v := (0 : Int32)) dX6_takeNumber_26 (by decide) ?_
      refine V_istore_n (pc := 27) (i := 3) (lv' := [(3, .int (0 : Int32)), (0, .ref v0), (1, .int v1), (2, .int v2)]) dX6_takeNumber_27 rfl (by decide) rfl ?_
      refine V_aload_n (pc := 28) (i := 0) dX6_takeNumber_28 rfl rfl ?_
      refine V_getI (pc := 29) (ci := 6) (k := 3) dX6_takeNumber_29 fl_X6_22 rfl (of_decide_eq_true g1) ?_
      refine V_istore (pc := 32) (i := 4) (lv' := [(4, .int (zI h v0 3)), (3, .int (0 : Int32)), (0, .ref v0), (1, .int v1), (2, .int v2)]) dX6_takeNumber_32 (by decide) rfl ?_
      refine V_pick [2, 3, 4, 1, 0] rfl ?_
      obtain ⟨y24, g25, e⟩ := ob_some e
      refine iter_V (P := fun z : Int32 × Int32 => V M_X6_takeNumber x 2 34 [(0, .ref v0), (1, .int v1), (2, .int v2), (3, .int z.1), (4, .int z.2)] [] h 0 0) (E := fun z : Int32 => V M_X6_takeNumber x 2 65 [(0, .ref v0), (1, .int v1), (2, .int v2), (3, .int z)] [] h 0 0) (fun z o e9 k1 k2 => r_X6_takeNumber_l34 v0 v1 v2 z.1 z.2 h e9 (fun z hz9 => k1 z hz9) (fun z hz9 => k2 _ hz9)) _ _ _ g25 ?_
      clear g25
      obtain ⟨w13, rfl⟩ : ∃ q, q = y24 := ⟨_, rfl⟩
      replace e : ((if w13 < v1 then F_X6_takeNumber_b75 v0 h else (if w13 ≤ v2 then ob2 (F_X6_lookAtNext v0 (setI h v0 5 w13)) fun _ h21 => some ((1 : Int32), h21) else F_X6_takeNumber_b75 v0 h))) = some (r, hz) := e
      show V M_X6_takeNumber x 2 65 [(0, .ref v0), (1, .int v1), (2, .int v2), (3, .int w13)] [] h 0 0
      refine V_iload_n (pc := 65) (i := 3) dX6_takeNumber_65 rfl rfl ?_
      refine V_iload_n (pc := 66) (i := 1) dX6_takeNumber_66 rfl rfl ?_
      refine V_icmp_lt (pc := 67) (tgt := 75) dX6_takeNumber_67 (by decide) (fun c23 => ?_) (fun c23 => ?_)
      · rw [if_pos c23] at e
        exact V_pick [0] rfl (r_X6_takeNumber_b75 v0 h e hF)
      · rw [if_neg c23] at e
        refine V_pick [0, 2, 3] rfl ?_
        refine V_iload_n (pc := 70) (i := 3) dX6_takeNumber_70 rfl rfl ?_
        refine V_iload_n (pc := 71) (i := 2) dX6_takeNumber_71 rfl rfl ?_
        refine V_icmp_le (pc := 72) (tgt := 80) dX6_takeNumber_72 (by decide) (fun c22 => ?_) (fun c22 => ?_)
        · rw [if_pos c22] at e
          refine V_pick [0, 2] rfl ?_
          refine V_aload_n (pc := 80) (i := 0) dX6_takeNumber_80 rfl rfl ?_
          refine V_iload_n (pc := 81) (i := 3) dX6_takeNumber_81 rfl rfl ?_
          refine V_putI (pc := 82) (ci := 6) (k := 5) dX6_takeNumber_82 fp_X6_28 rfl (of_decide_eq_true g1) ?_
          refine V_aload_n (pc := 85) (i := 0) dX6_takeNumber_85 rfl rfl ?_
          obtain ⟨r20, h21, g19, e⟩ := ob2_some e
          refine V_callV (pc := 86) (bc := 0) (bs := 0) (mc := 0) (ms := 0) (st := []) (As := []) (a := v0) (h' := h21) (r := none) dX6_takeNumber_86 ml_X6_34 (ci := 6) rfl (of_decide_eq_true g1) rfl rfl (Nat.le_of_ble_eq_true rfl) (d' := 1) (by decide) (c_X6_lookAtNext (l := x.2.1) v0 (setI h v0 5 w13) g19) ?_
          refine V_iconst (pc := 89) (v := (1 : Int32)) dX6_takeNumber_89 (by decide) ?_
          cases e
          exact V_zret (pc := 90) dX6_takeNumber_90 rfl hF
        · rw [if_neg c22] at e
          exact V_pick [0] rfl (r_X6_takeNumber_b75 v0 h e hF)
    · rw [if_neg c26] at e
      exact V_pick [0] rfl (r_X6_takeNumber_b21 v0 h e hF)
def F_X6_takeNumber (v0 : Nat) (v1 : Int32) (v2 : Int32) (h : Hp) : Option (Int32 × Hp) := F_X6_takeNumber_b0 v0 v1 v2 h
theorem c_X6_takeNumber {l : Launch} (v0 : Nat) (v1 : Int32) (v2 : Int32) (h : Hp) {r : Int32} {hz : Hp} (e : F_X6_takeNumber v0 v1 v2 h = some (r, hz)) : Ct l yX6_takeNumber M_X6_takeNumber (some .boolean) 2 [.ref v0, .int v1, .int v2] h 0 0 (some (.int r)) hz :=
  Ct_of rfl rfl (fun q => by cases q) (Nat.le_of_ble_eq_true rfl) (fun x _ hF => V_pick [0, 1, 2] rfl (r_X6_takeNumber_b0 v0 v1 v2 h e hF))
theorem dX8_copyFrom_0 : decode cX8_copyFrom 0 = .ok (.aload_n 0, 1) := by decide +kernel
theorem dX8_copyFrom_1 : decode cX8_copyFrom 1 = .ok (.aload_n 1, 1) := by decide +kernel
theorem dX8_copyFrom_2 : decode cX8_copyFrom 2 = .ok (.getfield 9, 3) := by decide +kernel
theorem dX8_copyFrom_5 : decode cX8_copyFrom 5 = .ok (.putfield 9, 3) := by decide +kernel
theorem dX8_copyFrom_8 : decode cX8_copyFrom 8 = .ok (.aload_n 1, 1) := by decide +kernel
theorem dX8_copyFrom_9 : decode cX8_copyFrom 9 = .ok (.getfield 15, 3) := by decide +kernel
theorem dX8_copyFrom_12 : decode cX8_copyFrom 12 = .ok (.iconst 0, 1) := by decide +kernel
theorem dX8_copyFrom_13 : decode cX8_copyFrom 13 = .ok (.aload_n 0, 1) := by decide +kernel
theorem dX8_copyFrom_14 : decode cX8_copyFrom 14 = .ok (.getfield 15, 3) := by decide +kernel
theorem dX8_copyFrom_17 : decode cX8_copyFrom 17 = .ok (.iconst 0, 1) := by decide +kernel
theorem dX8_copyFrom_18 : decode cX8_copyFrom 18 = .ok (.bipush 6, 2) := by decide +kernel
theorem dX8_copyFrom_20 : decode cX8_copyFrom 20 = .ok (.invokestatic 25, 3) := by decide +kernel
theorem dX8_copyFrom_23 : decode cX8_copyFrom 23 = .ok (.aload_n 1, 1) := by decide +kernel
theorem dX8_copyFrom_24 : decode cX8_copyFrom 24 = .ok (.getfield 19, 3) := by decide +kernel
theorem dX8_copyFrom_27 : decode cX8_copyFrom 27 = .ok (.iconst 0, 1) := by decide +kernel
theorem dX8_copyFrom_28 : decode cX8_copyFrom 28 = .ok (.aload_n 0, 1) := by decide +kernel
theorem dX8_copyFrom_29 : decode cX8_copyFrom 29 = .ok (.getfield 19, 3) := by decide +kernel
theorem dX8_copyFrom_32 : decode cX8_copyFrom 32 = .ok (.iconst 0, 1) := by decide +kernel
theorem dX8_copyFrom_33 : decode cX8_copyFrom 33 = .ok (.bipush 6, 2) := by decide +kernel
theorem dX8_copyFrom_35 : decode cX8_copyFrom 35 = .ok (.invokestatic 25, 3) := by decide +kernel
theorem dX8_copyFrom_38 : decode cX8_copyFrom 38 = .ok (.aload_n 1, 1) := by decide +kernel
theorem dX8_copyFrom_39 : decode cX8_copyFrom 39 = .ok (.getfield 22, 3) := by decide +kernel
theorem dX8_copyFrom_42 : decode cX8_copyFrom 42 = .ok (.iconst 0, 1) := by decide +kernel
theorem dX8_copyFrom_43 : decode cX8_copyFrom 43 = .ok (.aload_n 0, 1) := by decide +kernel
theorem dX8_copyFrom_44 : decode cX8_copyFrom 44 = .ok (.getfield 22, 3) := by decide +kernel
theorem dX8_copyFrom_47 : decode cX8_copyFrom 47 = .ok (.iconst 0, 1) := by decide +kernel
theorem dX8_copyFrom_48 : decode cX8_copyFrom 48 = .ok (.bipush 6, 2) := by decide +kernel
theorem dX8_copyFrom_50 : decode cX8_copyFrom 50 = .ok (.invokestatic 25, 3) := by decide +kernel
theorem dX8_copyFrom_53 : decode cX8_copyFrom 53 = .ok (.return_, 1) := by decide +kernel
set_option maxRecDepth 100000 in
def F_X8_copyFrom_b0 (v0 : Nat) (v1 : Nat) (h : Hp) : Option (Unit × Hp) :=
  gd (decide (kd h v1 = 7)) <| gd (decide (kd h v0 = 7)) <| ob (zR (setI h v0 0 (zI h v1 0)) v1 1) fun q3 => ob (zR (setI h v0 0 (zI h v1 0)) v0 1) fun q5 => gd (decide (kd (setI h v0 0 (zI h v1 0)) q3 = 13)) <| gd (decide (kd (setI h v0 0 (zI h v1 0)) q5 = 13)) <| gd (cpk (0 : Int32) (0 : Int32) (6 : Int32) (zl (setI h v0 0 (zI h v1 0)) q3) (zl (setI h v0 0 (zI h v1 0)) q5)) <| ob (zR (cpA (setI h v0 0 (zI h v1 0)) q3 (0 : Int32) q5 (0 : Int32) (6 : Int32)) v1 2) fun q10 => ob (zR (cpA (setI h v0 0 (zI h v1 0)) q3 (0 : Int32) q5 (0 : Int32) (6 : Int32)) v0 2) fun q12 => gd (decide (kd (cpA (setI h v0 0 (zI h v1 0)) q3 (0 : Int32) q5 (0 : Int32) (6 : Int32)) q10 = 13)) <| gd (decide (kd (cpA (setI h v0 0 (zI h v1 0)) q3 (0 : Int32) q5 (0 : Int32) (6 : Int32)) q12 = 13)) <| gd (cpk (0 : Int32) (0 : Int32) (6 : Int32) (zl (cpA (setI h v0 0 (zI h v1 0)) q3 (0 : Int32) q5 (0 : Int32) (6 : Int32)) q10) (zl (cpA (setI h v0 0 (zI h v1 0)) q3 (0 : Int32) q5 (0 : Int32) (6 : Int32)) q12)) <| ob (zR (cpA (cpA (setI h v0 0 (zI h v1 0)) q3 (0 : Int32) q5 (0 : Int32) (6 : Int32)) q10 (0 : Int32) q12 (0 : Int32) (6 : Int32)) v1 3) fun q17 => ob (zR (cpA (cpA (setI h v0 0 (zI h v1 0)) q3 (0 : Int32) q5 (0 : Int32) (6 : Int32)) q10 (0 : Int32) q12 (0 : Int32) (6 : Int32)) v0 3) fun q19 => gd (decide (kd (cpA (cpA (setI h v0 0 (zI h v1 0)) q3 (0 : Int32) q5 (0 : Int32) (6 : Int32)) q10 (0 : Int32) q12 (0 : Int32) (6 : Int32)) q17 = 13)) <| gd (decide (kd (cpA (cpA (setI h v0 0 (zI h v1 0)) q3 (0 : Int32) q5 (0 : Int32) (6 : Int32)) q10 (0 : Int32) q12 (0 : Int32) (6 : Int32)) q19 = 13)) <| gd (cpk (0 : Int32) (0 : Int32) (6 : Int32) (zl (cpA (cpA (setI h v0 0 (zI h v1 0)) q3 (0 : Int32) q5 (0 : Int32) (6 : Int32)) q10 (0 : Int32) q12 (0 : Int32) (6 : Int32)) q17) (zl (cpA (cpA (setI h v0 0 (zI h v1 0)) q3 (0 : Int32) q5 (0 : Int32) (6 : Int32)) q10 (0 : Int32) q12 (0 : Int32) (6 : Int32)) q19)) <| some ((), cpA (cpA (cpA (setI h v0 0 (zI h v1 0)) q3 (0 : Int32) q5 (0 : Int32) (6 : Int32)) q10 (0 : Int32) q12 (0 : Int32) (6 : Int32)) q17 (0 : Int32) q19 (0 : Int32) (6 : Int32))
set_option maxHeartbeats 4000000 in
set_option maxRecDepth 100000 in
theorem r_X8_copyFrom_b0 (v0 : Nat) (v1 : Nat) (h : Hp) {x : Cx} {r : Unit} {hz : Hp} (e : F_X8_copyFrom_b0 v0 v1 h = some (r, hz)) (hF : Fin9 M_X8_copyFrom x none none hz) : V M_X8_copyFrom x 1 0 [(0, .ref v0), (1, .ref v1)] [] h 0 0 := by
  unfold F_X8_copyFrom_b0 at e
  refine V_aload_n (pc := 0) (i := 0) dX8_copyFrom_0 rfl rfl ?_
  refine V_aload_n (pc := 1) (i := 1) dX8_copyFrom_1 rfl rfl ?_
  obtain ⟨g1, e⟩ := gd_some e
  refine V_getI (pc := 2) (ci := 7) (k := 0) dX8_copyFrom_2 fl_X8_9 rfl (of_decide_eq_true g1) ?_
  obtain ⟨g2, e⟩ := gd_some e
  refine V_putI (pc := 5) (ci := 7) (k := 0) dX8_copyFrom_5 fp_X8_9 rfl (of_decide_eq_true g2) ?_
  refine V_aload_n (pc := 8) (i := 1) dX8_copyFrom_8 rfl rfl ?_
  obtain ⟨q3, g4, e⟩ := ob_some e
  refine V_getR (pc := 9) (ci := 7) (k := 1) (b := q3) dX8_copyFrom_9 fl_X8_15 rfl (of_decide_eq_true g1) g4 ?_
  refine V_iconst (pc := 12) (v := (0 : Int32)) dX8_copyFrom_12 (by decide) ?_
  refine V_aload_n (pc := 13) (i := 0) dX8_copyFrom_13 rfl rfl ?_
  obtain ⟨q5, g6, e⟩ := ob_some e
  refine V_getR (pc := 14) (ci := 7) (k := 1) (b := q5) dX8_copyFrom_14 fl_X8_15 rfl (of_decide_eq_true g2) g6 ?_
  refine V_iconst (pc := 17) (v := (0 : Int32)) dX8_copyFrom_17 (by decide) ?_
  refine V_bipush (pc := 18) (v := (6 : Int32)) dX8_copyFrom_18 (by decide) ?_
  obtain ⟨g7, e⟩ := gd_some e
  obtain ⟨g8, e⟩ := gd_some e
  obtain ⟨g9, e⟩ := gd_some e
  refine V_copy (pc := 20) dX8_copyFrom_20 wm_X8_25 (of_decide_eq_true g7) (of_decide_eq_true g8) g9 (by decide) (Nat.le_of_ble_eq_true rfl) ?_
  refine V_aload_n (pc := 23) (i := 1) dX8_copyFrom_23 rfl rfl ?_
  obtain ⟨q10, g11, e⟩ := ob_some e
  refine V_getR (pc := 24) (ci := 7) (k := 2) (b := q10) dX8_copyFrom_24 fl_X8_19 rfl (of_decide_eq_true g1) g11 ?_
  refine V_iconst (pc := 27) (v := (0 : Int32)) dX8_copyFrom_27 (by decide) ?_
  refine V_aload_n (pc := 28) (i := 0) dX8_copyFrom_28 rfl rfl ?_
  obtain ⟨q12, g13, e⟩ := ob_some e
  refine V_getR (pc := 29) (ci := 7) (k := 2) (b := q12) dX8_copyFrom_29 fl_X8_19 rfl (of_decide_eq_true g2) g13 ?_
  refine V_iconst (pc := 32) (v := (0 : Int32)) dX8_copyFrom_32 (by decide) ?_
  refine V_bipush (pc := 33) (v := (6 : Int32)) dX8_copyFrom_33 (by decide) ?_
  obtain ⟨g14, e⟩ := gd_some e
  obtain ⟨g15, e⟩ := gd_some e
  obtain ⟨g16, e⟩ := gd_some e
  refine V_copy (pc := 35) dX8_copyFrom_35 wm_X8_25 (of_decide_eq_true g14) (of_decide_eq_true g15) g16 (by decide) (Nat.le_of_ble_eq_true rfl) ?_
  refine V_aload_n (pc := 38) (i := 1) dX8_copyFrom_38 rfl rfl ?_
  obtain ⟨q17, g18, e⟩ := ob_some e
  refine V_getR (pc := 39) (ci := 7) (k := 3) (b := q17) dX8_copyFrom_39 fl_X8_22 rfl (of_decide_eq_true g1) g18 ?_
  refine V_iconst (pc := 42) (v := (0 : Int32)) dX8_copyFrom_42 (by decide) ?_
  refine V_aload_n (pc := 43) (i := 0) dX8_copyFrom_43 rfl rfl ?_
  obtain ⟨q19, g20, e⟩ := ob_some e
  refine V_getR (pc := 44) (ci := 7) (k := 3) (b := q19) dX8_copyFrom_44 fl_X8_22 rfl (of_decide_eq_true g2) g20 ?_
  refine V_iconst (pc := 47) (v := (0 : Int32)) dX8_copyFrom_47 (by decide) ?_
  refine V_bipush (pc := 48) (v := (6 : Int32)) dX8_copyFrom_48 (by decide) ?_
  obtain ⟨g21, e⟩ := gd_some e
  obtain ⟨g22, e⟩ := gd_some e
  obtain ⟨g23, e⟩ := gd_some e
  refine V_copy (pc := 50) dX8_copyFrom_50 wm_X8_25 (of_decide_eq_true g21) (of_decide_eq_true g22) g23 (by decide) (Nat.le_of_ble_eq_true rfl) ?_
  cases e
  exact V_vret (pc := 53) dX8_copyFrom_53 hF
def F_X8_copyFrom (v0 : Nat) (v1 : Nat) (h : Hp) : Option (Unit × Hp) := F_X8_copyFrom_b0 v0 v1 h
theorem c_X8_copyFrom {l : Launch} (v0 : Nat) (v1 : Nat) (h : Hp) {r : Unit} {hz : Hp} (e : F_X8_copyFrom v0 v1 h = some (r, hz)) : Ct l yX8_copyFrom M_X8_copyFrom none 1 [.ref v0, .ref v1] h 0 0 none hz :=
  Ct_of rfl rfl (fun q => by cases q) (Nat.le_of_ble_eq_true rfl) (fun x _ hF => V_pick [0, 1] rfl (r_X8_copyFrom_b0 v0 v1 h e hF))
theorem dX8_add_0 : decode cX8_add 0 = .ok (.aload_n 0, 1) := by decide +kernel
theorem dX8_add_1 : decode cX8_add 1 = .ok (.getfield 9, 3) := by decide +kernel
theorem dX8_add_4 : decode cX8_add 4 = .ok (.bipush 6, 2) := by decide +kernel
theorem dX8_add_6 : decode cX8_add 6 = .ok (.if_icmp .ge 43, 3) := by decide +kernel
theorem dX8_add_9 : decode cX8_add 9 = .ok (.aload_n 0, 1) := by decide +kernel
theorem dX8_add_10 : decode cX8_add 10 = .ok (.getfield 15, 3) := by decide +kernel
theorem dX8_add_13 : decode cX8_add 13 = .ok (.aload_n 0, 1) := by decide +kernel
theorem dX8_add_14 : decode cX8_add 14 = .ok (.getfield 9, 3) := by decide +kernel
theorem dX8_add_17 : decode cX8_add 17 = .ok (.iload_n 1, 1) := by decide +kernel
theorem dX8_add_18 : decode cX8_add 18 = .ok (.iastore, 1) := by decide +kernel
theorem dX8_add_19 : decode cX8_add 19 = .ok (.aload_n 0, 1) := by decide +kernel
theorem dX8_add_20 : decode cX8_add 20 = .ok (.getfield 19, 3) := by decide +kernel
theorem dX8_add_23 : decode cX8_add 23 = .ok (.aload_n 0, 1) := by decide +kernel
theorem dX8_add_24 : decode cX8_add 24 = .ok (.getfield 9, 3) := by decide +kernel
theorem dX8_add_27 : decode cX8_add 27 = .ok (.iload_n 2, 1) := by decide +kernel
theorem dX8_add_28 : decode cX8_add 28 = .ok (.iastore, 1) := by decide +kernel
theorem dX8_add_29 : decode cX8_add 29 = .ok (.aload_n 0, 1) := by decide +kernel
theorem dX8_add_30 : decode cX8_add 30 = .ok (.getfield 22, 3) := by decide +kernel
theorem dX8_add_33 : decode cX8_add 33 = .ok (.aload_n 0, 1) := by decide +kernel
theorem dX8_add_34 : decode cX8_add 34 = .ok (.getfield 9, 3) := by decide +kernel
theorem dX8_add_37 : decode cX8_add 37 = .ok (.iload_n 3, 1) := by decide +kernel
theorem dX8_add_38 : decode cX8_add 38 = .ok (.iastore, 1) := by decide +kernel
theorem dX8_add_39 : decode cX8_add 39 = .ok (.aload_n 0, 1) := by decide +kernel
theorem dX8_add_40 : decode cX8_add 40 = .ok (.dup, 1) := by decide +kernel
theorem dX8_add_41 : decode cX8_add 41 = .ok (.getfield 9, 3) := by decide +kernel
theorem dX8_add_44 : decode cX8_add 44 = .ok (.iconst 1, 1) := by decide +kernel
theorem dX8_add_45 : decode cX8_add 45 = .ok (.iadd, 1) := by decide +kernel
theorem dX8_add_46 : decode cX8_add 46 = .ok (.putfield 9, 3) := by decide +kernel
theorem dX8_add_49 : decode cX8_add 49 = .ok (.return_, 1) := by decide +kernel
set_option maxRecDepth 100000 in
def F_X8_add_b49  (h : Hp) : Option (Unit × Hp) :=
  some ((), h)
set_option maxHeartbeats 4000000 in
set_option maxRecDepth 100000 in
theorem r_X8_add_b49  (h : Hp) {x : Cx} {r : Unit} {hz : Hp} (e : F_X8_add_b49  h = some (r, hz)) (hF : Fin9 M_X8_add x none none hz) : V M_X8_add x 0 49 [] [] h 0 0 := by
  unfold F_X8_add_b49 at e
  cases e
  exact V_vret (pc := 49) dX8_add_49 hF
set_option maxRecDepth 100000 in
def F_X8_add_b0 (v0 : Nat) (v1 : Int32) (v2 : Int32) (v3 : Int32) (h : Hp) : Option (Unit × Hp) :=
  gd (decide (kd h v0 = 7)) <| (if (6 : Int32) ≤ (zI h v0 0) then F_X8_add_b49 h else ob (zR h v0 1) fun q2 => gd (decide (kd h q2 = 13)) <| gd (ix (zI h v0 0) (zl h q2)) <| ob (zR (setI h q2 (zI h v0 0).toNatClampNeg v1) v0 2) fun q6 => gd (decide (kd (setI h q2 (zI h v0 0).toNatClampNeg v1) q6 = 13)) <| gd (ix (zI (setI h q2 (zI h v0 0).toNatClampNeg v1) v0 0) (zl (setI h q2 (zI h v0 0).toNatClampNeg v1) q6)) <| ob (zR (setI (setI h q2 (zI h v0 0).toNatClampNeg v1) q6 (zI (setI h q2 (zI h v0 0).toNatClampNeg v1) v0 0).toNatClampNeg v2) v0 3) fun q10 => gd (decide (kd (setI (setI h q2 (zI h v0 0).toNatClampNeg v1) q6 (zI (setI h q2 (zI h v0 0).toNatClampNeg v1) v0 0).toNatClampNeg v2) q10 = 13)) <| gd (ix (zI (setI (setI h q2 (zI h v0 0).toNatClampNeg v1) q6 (zI (setI h q2 (zI h v0 0).toNatClampNeg v1) v0 0).toNatClampNeg v2) v0 0) (zl (setI (setI h q2 (zI h v0 0).toNatClampNeg v1) q6 (zI (setI h q2 (zI h v0 0).toNatClampNeg v1) v0 0).toNatClampNeg v2) q10)) <| F_X8_add_b49 (setI (setI (setI (setI h q2 (zI h v0 0).toNatClampNeg v1) q6 (zI (setI h q2 (zI h v0 0).toNatClampNeg v1) v0 0).toNatClampNeg v2) q10 (zI (setI (setI h q2 (zI h v0 0).toNatClampNeg v1) q6 (zI (setI h q2 (zI h v0 0).toNatClampNeg v1) v0 0).toNatClampNeg v2) v0 0).toNatClampNeg v3) v0 0 ((zI (setI (setI (setI h q2 (zI h v0 0).toNatClampNeg v1) q6 (zI (setI h q2 (zI h v0 0).toNatClampNeg v1) v0 0).toNatClampNeg v2) q10 (zI (setI (setI h q2 (zI h v0 0).toNatClampNeg v1) q6 (zI (setI h q2 (zI h v0 0).toNatClampNeg v1) v0 0).toNatClampNeg v2) v0 0).toNatClampNeg v3) v0 0) + (1 : Int32))))
set_option maxHeartbeats 4000000 in
set_option maxRecDepth 100000 in
theorem r_X8_add_b0 (v0 : Nat) (v1 : Int32) (v2 : Int32) (v3 : Int32) (h : Hp) {x : Cx} {r : Unit} {hz : Hp} (e : F_X8_add_b0 v0 v1 v2 v3 h = some (r, hz)) (hF : Fin9 M_X8_add x none none hz) : V M_X8_add x 0 0 [(0, .ref v0), (1, .int v1), (2, .int v2), (3, .int v3)] [] h 0 0 := by
  unfold F_X8_add_b0 at e
  refine V_aload_n (pc := 0) (i := 0) dX8_add_0 rfl rfl ?_
  obtain ⟨g1, e⟩ := gd_some e
  refine V_getI (pc := 1) (ci := 7) (k := 0) dX8_add_1 fl_X8_9 rfl (of_decide_eq_true g1) ?_
  refine V_bipush (pc := 4) (v := (6 : Int32)) dX8_add_4 (by decide) ?_
  refine V_icmp_ge (pc := 6) (tgt := 49) dX8_add_6 (by decide) (fun c14 => ?_) (fun c14 => ?_)
  · rw [if_pos c14] at e
    exact V_pick [] rfl (r_X8_add_b49 h e hF)
  · rw [if_neg c14] at e
    refine V_pick [0, 1, 2, 3] rfl ?_
    refine V_aload_n (pc := 9) (i := 0) dX8_add_9 rfl rfl ?_
    obtain ⟨q2, g3, e⟩ := ob_some e
    refine V_getR (pc := 10) (ci := 7) (k := 1) (b := q2) dX8_add_10 fl_X8_15 rfl (of_decide_eq_true g1) g3 ?_
    refine V_aload_n (pc := 13) (i := 0) dX8_add_13 rfl rfl ?_
    refine V_getI (pc := 14) (ci := 7) (k := 0) dX8_add_14 fl_X8_9 rfl (of_decide_eq_true g1) ?_
    refine V_iload_n (pc := 17) (i := 1) dX8_add_17 rfl rfl ?_
    obtain ⟨g4, e⟩ := gd_some e
    obtain ⟨g5, e⟩ := gd_some e
    refine V_iast (pc := 18) dX8_add_18 (of_decide_eq_true g4) (ix_in g5) ?_
    refine V_aload_n (pc := 19) (i := 0) dX8_add_19 rfl rfl ?_
    obtain ⟨q6, g7, e⟩ := ob_some e
    refine V_getR (pc := 20) (ci := 7) (k := 2) (b := q6) dX8_add_20 fl_X8_19 rfl (of_decide_eq_true g1) g7 ?_
    refine V_aload_n (pc := 23) (i := 0) dX8_add_23 rfl rfl ?_
    refine V_getI (pc := 24) (ci := 7) (k := 0) dX8_add_24 fl_X8_9 rfl (of_decide_eq_true g1) ?_
    refine V_iload_n (pc := 27) (i := 2) dX8_add_27 rfl rfl ?_
    obtain ⟨g8, e⟩ := gd_some e
    obtain ⟨g9, e⟩ := gd_some e
    refine V_iast (pc := 28) dX8_add_28 (of_decide_eq_true g8) (ix_in g9) ?_
    refine V_aload_n (pc := 29) (i := 0) dX8_add_29 rfl rfl ?_
    obtain ⟨q10, g11, e⟩ := ob_some e
    refine V_getR (pc := 30) (ci := 7) (k := 3) (b := q10) dX8_add_30 fl_X8_22 rfl (of_decide_eq_true g1) g11 ?_
    refine V_aload_n (pc := 33) (i := 0) dX8_add_33 rfl rfl ?_
    refine V_getI (pc := 34) (ci := 7) (k := 0) dX8_add_34 fl_X8_9 rfl (of_decide_eq_true g1) ?_
    refine V_iload_n (pc := 37) (i := 3) dX8_add_37 rfl rfl ?_
    obtain ⟨g12, e⟩ := gd_some e
    obtain ⟨g13, e⟩ := gd_some e
    refine V_iast (pc := 38) dX8_add_38 (of_decide_eq_true g12) (ix_in g13) ?_
    refine V_aload_n (pc := 39) (i := 0) dX8_add_39 rfl rfl ?_
    refine V_dup (pc := 40) dX8_add_40 rfl ?_
    refine V_getI (pc := 41) (ci := 7) (k := 0) dX8_add_41 fl_X8_9 rfl (of_decide_eq_true g1) ?_
    refine V_iconst (pc := 44) (v := (1 : Int32)) dX8_add_44 (by decide) ?_
    refine V_iadd (pc := 45) dX8_add_45 ?_
    refine V_putI (pc := 46) (ci := 7) (k := 0) dX8_add_46 fp_X8_9 rfl (of_decide_eq_true g1) ?_
    exact V_pick [] rfl (r_X8_add_b49 (setI (setI (setI (setI h q2 (zI h v0 0).toNatClampNeg v1) q6 (zI (setI h q2 (zI h v0 0).toNatClampNeg v1) v0 0).toNatClampNeg v2) q10 (zI (setI (setI h q2 (zI h v0 0).toNatClampNeg v1) q6 (zI (setI h q2 (zI h v0 0).toNatClampNeg v1) v0 0).toNatClampNeg v2) v0 0).toNatClampNeg v3) v0 0 ((zI (setI (setI (setI h q2 (zI h v0 0).toNatClampNeg v1) q6 (zI (setI h q2 (zI h v0 0).toNatClampNeg v1) v0 0).toNatClampNeg v2) q10 (zI (setI (setI h q2 (zI h v0 0).toNatClampNeg v1) q6 (zI (setI h q2 (zI h v0 0).toNatClampNeg v1) v0 0).toNatClampNeg v2) v0 0).toNatClampNeg v3) v0 0) + (1 : Int32))) e hF)
def F_X8_add (v0 : Nat) (v1 : Int32) (v2 : Int32) (v3 : Int32) (h : Hp) : Option (Unit × Hp) := F_X8_add_b0 v0 v1 v2 v3 h
theorem c_X8_add {l : Launch} (v0 : Nat) (v1 : Int32) (v2 : Int32) (v3 : Int32) (h : Hp) {r : Unit} {hz : Hp} (e : F_X8_add v0 v1 v2 v3 h = some (r, hz)) : Ct l yX8_add M_X8_add none 0 [.ref v0, .int v1, .int v2, .int v3] h 0 0 none hz :=
  Ct_of rfl rfl (fun q => by cases q) (Nat.le_of_ble_eq_true rfl) (fun x _ hF => V_pick [0, 1, 2, 3] rfl (r_X8_add_b0 v0 v1 v2 v3 h e hF))
theorem dX8_has_0 : decode cX8_has 0 = .ok (.iload_n 1, 1) := by decide +kernel
theorem dX8_has_1 : decode cX8_has 1 = .ok (.ifCond .lt 15, 3) := by decide +kernel
theorem dX8_has_4 : decode cX8_has 4 = .ok (.iload_n 1, 1) := by decide +kernel
theorem dX8_has_5 : decode cX8_has 5 = .ok (.aload_n 0, 1) := by decide +kernel
theorem dX8_has_6 : decode cX8_has 6 = .ok (.getfield 9, 3) := by decide +kernel
theorem dX8_has_9 : decode cX8_has 9 = .ok (.if_icmp .ge 7, 3) := by decide +kernel
theorem dX8_has_12 : decode cX8_has 12 = .ok (.iconst 1, 1) := by decide +kernel
theorem dX8_has_13 : decode cX8_has 13 = .ok (.goto 4, 3) := by decide +kernel
theorem dX8_has_16 : decode cX8_has 16 = .ok (.iconst 0, 1) := by decide +kernel
theorem dX8_has_17 : decode cX8_has 17 = .ok (.ireturn, 1) := by decide +kernel
set_option maxRecDepth 100000 in
def F_X8_has_b17 (t0 : Int32) (h : Hp) : Option Int32 :=
  gd (decide (t0 = 0 ∨ t0 = 1)) <| some t0
set_option maxHeartbeats 4000000 in
set_option maxRecDepth 100000 in
theorem r_X8_has_b17 (t0 : Int32) (h : Hp) {x : Cx} {r : Int32} (e : F_X8_has_b17 t0 h = some r) (hF : Fin9 M_X8_has x (some .boolean) (some (.int r)) h) : V M_X8_has x 0 17 [] [.int t0] h 0 0 := by
  unfold F_X8_has_b17 at e
  obtain ⟨g1, e⟩ := gd_some e
  cases e
  exact V_zret (pc := 17) dX8_has_17 (z01 (of_decide_eq_true g1)) hF
set_option maxRecDepth 100000 in
def F_X8_has_b16  (h : Hp) : Option Int32 :=
  F_X8_has_b17 (0 : Int32) h
set_option maxHeartbeats 4000000 in
set_option maxRecDepth 100000 in
theorem r_X8_has_b16  (h : Hp) {x : Cx} {r : Int32} (e : F_X8_has_b16  h = some r) (hF : Fin9 M_X8_has x (some .boolean) (some (.int r)) h) : V M_X8_has x 0 16 [] [] h 0 0 := by
  unfold F_X8_has_b16 at e
  refine V_iconst (pc := 16) (v := (0 : Int32)) dX8_has_16 (by decide) ?_
  exact V_pick [] rfl (r_X8_has_b17 (0 : Int32) h e hF)
set_option maxRecDepth 100000 in
def F_X8_has_b0 (v0 : Nat) (v1 : Int32) (h : Hp) : Option Int32 :=
  (if v1 < 0 then F_X8_has_b16 h else gd (decide (kd h v0 = 7)) <| (if (zI h v0 0) ≤ v1 then F_X8_has_b16 h else F_X8_has_b17 (1 : Int32) h))
set_option maxHeartbeats 4000000 in
set_option maxRecDepth 100000 in
theorem r_X8_has_b0 (v0 : Nat) (v1 : Int32) (h : Hp) {x : Cx} {r : Int32} (e : F_X8_has_b0 v0 v1 h = some r) (hF : Fin9 M_X8_has x (some .boolean) (some (.int r)) h) : V M_X8_has x 0 0 [(0, .ref v0), (1, .int v1)] [] h 0 0 := by
  unfold F_X8_has_b0 at e
  refine V_iload_n (pc := 0) (i := 1) dX8_has_0 rfl rfl ?_
  refine V_if_lt (pc := 1) (tgt := 16) dX8_has_1 (by decide) (fun c4 => ?_) (fun c4 => ?_)
  · rw [if_pos c4] at e
    exact V_pick [] rfl (r_X8_has_b16 h e hF)
  · rw [if_neg c4] at e
    refine V_pick [0, 1] rfl ?_
    refine V_iload_n (pc := 4) (i := 1) dX8_has_4 rfl rfl ?_
    refine V_aload_n (pc := 5) (i := 0) dX8_has_5 rfl rfl ?_
    obtain ⟨g2, e⟩ := gd_some e
    refine V_getI (pc := 6) (ci := 7) (k := 0) dX8_has_6 fl_X8_9 rfl (of_decide_eq_true g2) ?_
    refine V_icmp_ge (pc := 9) (tgt := 16) dX8_has_9 (by decide) (fun c3 => ?_) (fun c3 => ?_)
    · rw [if_pos c3] at e
      exact V_pick [] rfl (r_X8_has_b16 h e hF)
    · rw [if_neg c3] at e
      refine V_pick [] rfl ?_
      refine V_iconst (pc := 12) (v := (1 : Int32)) dX8_has_12 (by decide) ?_
      refine V_goto (pc := 13) (tgt := 17) dX8_has_13 (by decide) ?_
      exact V_pick [] rfl (r_X8_has_b17 (1 : Int32) h e hF)
def F_X8_has (v0 : Nat) (v1 : Int32) (h : Hp) : Option Int32 := F_X8_has_b0 v0 v1 h
theorem c_X8_has {l : Launch} (v0 : Nat) (v1 : Int32) (h : Hp) {r : Int32} (e : F_X8_has v0 v1 h = some r) : Ct l yX8_has M_X8_has (some .boolean) 0 [.ref v0, .int v1] h 0 0 (some (.int r)) h :=
  Ct_of rfl rfl (fun q => by cases q) (Nat.le_of_ble_eq_true rfl) (fun x _ hF => V_pick [0, 1] rfl (r_X8_has_b0 v0 v1 h e hF))
theorem dX8_mayWeigh_0 : decode cX8_mayWeigh 0 = .ok (.lload_n 2, 1) := by decide +kernel
theorem dX8_mayWeigh_1 : decode cX8_mayWeigh 1 = .ok (.aload_n 0, 1) := by decide +kernel
theorem dX8_mayWeigh_2 : decode cX8_mayWeigh 2 = .ok (.getfield 15, 3) := by decide +kernel
theorem dX8_mayWeigh_5 : decode cX8_mayWeigh 5 = .ok (.iload_n 1, 1) := by decide +kernel
theorem dX8_mayWeigh_6 : decode cX8_mayWeigh 6 = .ok (.iaload, 1) := by decide +kernel
theorem dX8_mayWeigh_7 : decode cX8_mayWeigh 7 = .ok (.i2l, 1) := by decide +kernel
theorem dX8_mayWeigh_8 : decode cX8_mayWeigh 8 = .ok (.lcmp, 1) := by decide +kernel
theorem dX8_mayWeigh_9 : decode cX8_mayWeigh 9 = .ok (.ifCond .lt 19, 3) := by decide +kernel
theorem dX8_mayWeigh_12 : decode cX8_mayWeigh 12 = .ok (.lload_n 2, 1) := by decide +kernel
theorem dX8_mayWeigh_13 : decode cX8_mayWeigh 13 = .ok (.aload_n 0, 1) := by decide +kernel
theorem dX8_mayWeigh_14 : decode cX8_mayWeigh 14 = .ok (.getfield 19, 3) := by decide +kernel
theorem dX8_mayWeigh_17 : decode cX8_mayWeigh 17 = .ok (.iload_n 1, 1) := by decide +kernel
theorem dX8_mayWeigh_18 : decode cX8_mayWeigh 18 = .ok (.iaload, 1) := by decide +kernel
theorem dX8_mayWeigh_19 : decode cX8_mayWeigh 19 = .ok (.i2l, 1) := by decide +kernel
theorem dX8_mayWeigh_20 : decode cX8_mayWeigh 20 = .ok (.lcmp, 1) := by decide +kernel
theorem dX8_mayWeigh_21 : decode cX8_mayWeigh 21 = .ok (.ifCond .gt 7, 3) := by decide +kernel
theorem dX8_mayWeigh_24 : decode cX8_mayWeigh 24 = .ok (.iconst 1, 1) := by decide +kernel
theorem dX8_mayWeigh_25 : decode cX8_mayWeigh 25 = .ok (.goto 4, 3) := by decide +kernel
theorem dX8_mayWeigh_28 : decode cX8_mayWeigh 28 = .ok (.iconst 0, 1) := by decide +kernel
theorem dX8_mayWeigh_29 : decode cX8_mayWeigh 29 = .ok (.ireturn, 1) := by decide +kernel
set_option maxRecDepth 100000 in
def F_X8_mayWeigh_b29 (t0 : Int32) (h : Hp) : Option Int32 :=
  gd (decide (t0 = 0 ∨ t0 = 1)) <| some t0
set_option maxHeartbeats 4000000 in
set_option maxRecDepth 100000 in
theorem r_X8_mayWeigh_b29 (t0 : Int32) (h : Hp) {x : Cx} {r : Int32} (e : F_X8_mayWeigh_b29 t0 h = some r) (hF : Fin9 M_X8_mayWeigh x (some .boolean) (some (.int r)) h) : V M_X8_mayWeigh x 0 29 [] [.int t0] h 0 0 := by
  unfold F_X8_mayWeigh_b29 at e
  obtain ⟨g6, e⟩ := gd_some e
  cases e
  exact V_zret (pc := 29) dX8_mayWeigh_29 (z01 (of_decide_eq_true g6)) hF
set_option maxRecDepth 100000 in
def F_X8_mayWeigh_b28  (h : Hp) : Option Int32 :=
  F_X8_mayWeigh_b29 (0 : Int32) h
set_option maxHeartbeats 4000000 in
set_option maxRecDepth 100000 in
theorem r_X8_mayWeigh_b28  (h : Hp) {x : Cx} {r : Int32} (e : F_X8_mayWeigh_b28  h = some r) (hF : Fin9 M_X8_mayWeigh x (some .boolean) (some (.int r)) h) : V M_X8_mayWeigh x 0 28 [] [] h 0 0 := by
  unfold F_X8_mayWeigh_b28 at e
  refine V_iconst (pc := 28) (v := (0 : Int32)) dX8_mayWeigh_28 (by decide) ?_
  exact V_pick [] rfl (r_X8_mayWeigh_b29 (0 : Int32) h e hF)
set_option maxRecDepth 100000 in
def F_X8_mayWeigh_b0 (v0 : Nat) (v1 : Int32) (v2 : Int64) (h : Hp) : Option Int32 :=
  gd (decide (kd h v0 = 7)) <| ob (zR h v0 1) fun q2 => gd (decide (kd h q2 = 13)) <| gd (ix v1 (zl h q2)) <| (if (lg_cmp v2 ((zI h q2 (v1).toNatClampNeg).toInt64)) < 0 then F_X8_mayWeigh_b28 h else ob (zR h v0 2) fun q7 => gd (decide (kd h q7 = 13)) <| gd (ix v1 (zl h q7)) <| (if 0 < (lg_cmp v2 ((zI h q7 (v1).toNatClampNeg).toInt64)) then F_X8_mayWeigh_b28 h else F_X8_mayWeigh_b29 (1 : Int32) h))
set_option maxHeartbeats 4000000 in
set_option maxRecDepth 100000 in
theorem r_X8_mayWeigh_b0 (v0 : Nat) (v1 : Int32) (v2 : Int64) (h : Hp) {x : Cx} {r : Int32} (e : F_X8_mayWeigh_b0 v0 v1 v2 h = some r) (hF : Fin9 M_X8_mayWeigh x (some .boolean) (some (.int r)) h) : V M_X8_mayWeigh x 0 0 [(0, .ref v0), (1, .int v1), (2, .long v2)] [] h 0 0 := by
  unfold F_X8_mayWeigh_b0 at e
  refine V_lload_n (pc := 0) (i := 2) dX8_mayWeigh_0 rfl rfl ?_
  refine V_aload_n (pc := 1) (i := 0) dX8_mayWeigh_1 rfl rfl ?_
  obtain ⟨g1, e⟩ := gd_some e
  obtain ⟨q2, g3, e⟩ := ob_some e
  refine V_getR (pc := 2) (ci := 7) (k := 1) (b := q2) dX8_mayWeigh_2 fl_X8_15 rfl (of_decide_eq_true g1) g3 ?_
  refine V_iload_n (pc := 5) (i := 1) dX8_mayWeigh_5 rfl rfl ?_
  obtain ⟨g4, e⟩ := gd_some e
  obtain ⟨g5, e⟩ := gd_some e
  refine V_iald (pc := 6) dX8_mayWeigh_6 (of_decide_eq_true g4) (ix_in g5) ?_
  refine V_i2l (pc := 7) dX8_mayWeigh_7 ?_
  refine V_lcmp (pc := 8) dX8_mayWeigh_8 ?_
  refine V_if_lt (pc := 9) (tgt := 28) dX8_mayWeigh_9 (by decide) (fun c12 => ?_) (fun c12 => ?_)
  · rw [if_pos c12] at e
    exact V_pick [] rfl (r_X8_mayWeigh_b28 h e hF)
  · rw [if_neg c12] at e
    refine V_pick [0, 1, 2] rfl ?_
    refine V_lload_n (pc := 12) (i := 2) dX8_mayWeigh_12 rfl rfl ?_
    refine V_aload_n (pc := 13) (i := 0) dX8_mayWeigh_13 rfl rfl ?_
    obtain ⟨q7, g8, e⟩ := ob_some e
    refine V_getR (pc := 14) (ci := 7) (k := 2) (b := q7) dX8_mayWeigh_14 fl_X8_19 rfl (of_decide_eq_true g1) g8 ?_
    refine V_iload_n (pc := 17) (i := 1) dX8_mayWeigh_17 rfl rfl ?_
    obtain ⟨g9, e⟩ := gd_some e
    obtain ⟨g10, e⟩ := gd_some e
    refine V_iald (pc := 18) dX8_mayWeigh_18 (of_decide_eq_true g9) (ix_in g10) ?_
    refine V_i2l (pc := 19) dX8_mayWeigh_19 ?_
    refine V_lcmp (pc := 20) dX8_mayWeigh_20 ?_
    refine V_if_gt (pc := 21) (tgt := 28) dX8_mayWeigh_21 (by decide) (fun c11 => ?_) (fun c11 => ?_)
    · rw [if_pos c11] at e
      exact V_pick [] rfl (r_X8_mayWeigh_b28 h e hF)
    · rw [if_neg c11] at e
      refine V_pick [] rfl ?_
      refine V_iconst (pc := 24) (v := (1 : Int32)) dX8_mayWeigh_24 (by decide) ?_
      refine V_goto (pc := 25) (tgt := 29) dX8_mayWeigh_25 (by decide) ?_
      exact V_pick [] rfl (r_X8_mayWeigh_b29 (1 : Int32) h e hF)
def F_X8_mayWeigh (v0 : Nat) (v1 : Int32) (v2 : Int64) (h : Hp) : Option Int32 := F_X8_mayWeigh_b0 v0 v1 v2 h
theorem c_X8_mayWeigh {l : Launch} (v0 : Nat) (v1 : Int32) (v2 : Int64) (h : Hp) {r : Int32} (e : F_X8_mayWeigh v0 v1 v2 h = some r) : Ct l yX8_mayWeigh M_X8_mayWeigh (some .boolean) 0 [.ref v0, .int v1, .long v2] h 0 0 (some (.int r)) h :=
  Ct_of rfl rfl (fun q => by cases q) (Nat.le_of_ble_eq_true rfl) (fun x _ hF => V_pick [0, 1, 2] rfl (r_X8_mayWeigh_b0 v0 v1 v2 h e hF))
